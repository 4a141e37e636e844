/** Promise 13: sign: the sign at a place. IndexOutOfBoundsException: replica, place. */
public final class Promise13SignTest {
    public static void main(String[] args) {
        Check.runAll(Promise13SignTest.class);
    }

    static void theFirstAndTheLast(Check check) {
        SignRow x = Given.text("a ~b");
        check.due("the first", 'a', x.sign(0, 0));
        check.due("the least", 32, x.sign(0, 1));
        check.due("the greatest", 126, x.sign(0, 2));
        check.due("the last", 'b', x.sign(0, 3));
        SignRow full = Given.deeds(400);
        check.due("the 400th", 40 + 19, full.sign(0, 399));
        check.outOfBounds("one behind it", () -> full.sign(0, 400));
    }

    /** "IndexOutOfBoundsException: .. place". */
    static void placesOutside(Check check) {
        SignRow x = Given.text("abc");
        for (int place : new int[] {-1, 3, 400, Given.LEAST, Given.GREATEST}) {
            check.outOfBounds("sign(0, " + place + ")", () -> x.sign(0, place));
        }
        check.outOfBounds("an empty text", () -> x.sign(1, 0));
    }

    /** The place is in the TEXT: what is erased has none. */
    static void erasedSignsHaveNoPlace(Check check) {
        SignRow x = Given.text("abc");
        x.erase(0, 0);
        check.due("b", 'b', x.sign(0, 0));
        check.due("c", 'c', x.sign(0, 1));
        check.outOfBounds("none", () -> x.sign(0, 2));
        x.erase(0, 0);
        x.erase(0, 0);
        check.outOfBounds("all are erased", () -> x.sign(0, 0));
        x.undo(0);
        check.due("one is back", 'c', x.sign(0, 0));
    }

    /** "IndexOutOfBoundsException: replica ..". */
    static void noSuchReplica(Check check) {
        SignRow x = Given.textOfAll("a");
        check.due("the last one", 'a', x.sign(5, 0));
        for (int r : Given.NO_REPLICAS) {
            check.outOfBounds("sign(" + r + ", 0)", () -> x.sign(r, 0));
            check.outOfBounds("sign(" + r + ", -1)", () -> x.sign(r, -1));
        }
    }

    static void askingChangesNothing(Check check) {
        check.changesNothing("questions", () -> Given.text("abc"), x -> {
            check.due("sign", 'b', x.sign(0, 1));
            check.outOfBounds("sign", () -> x.sign(0, 3));
        });
    }
}
