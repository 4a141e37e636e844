/** Promise 9: lose: it is lost: how many are left. UNKNOWN. */
public final class Promise09LoseTest {
    public static void main(String[] args) {
        Check.runAll(Promise09LoseTest.class);
    }

    /** "How many are left": the first, one between, the last; the others stay in their order. */
    static void howManyAreLeft(Check check) {
        SignRow x = Given.text("a");
        check.due("the second", 4, x.lose(1));
        check.message("before it", x, 0, 0, 1);
        check.message("behind it", x, 1, 0, 3);
        check.due("the last", 3, x.lose(3));
        check.message("the last now", x, 2, 0, 4);
        check.due("the first", 2, x.lose(0));
        check.message("the first now", x, 0, 0, 3);
        check.message("the last now", x, 1, 0, 4);
    }

    static void untilNoneIsLeft(Check check) {
        SignRow x = Given.text("a");
        for (int left = 4; left >= 0; left--) {
            check.due("lose(0)", left, x.lose(0));
        }
        check.due("none is left", Given.UNKNOWN, x.lose(0));
        check.due("nobody heard of it", 0, x.length(1) + x.length(2) + x.length(3) + x.length(4) + x.length(5));
        check.due("the deed is there", 1, x.count(0));
        check.due("and can be learnt", 1, x.sync(5, 0));
    }

    /** "UNKNOWN". */
    static void noSuchMessage(Check check) {
        check.changesNothing("refused calls", () -> Given.text("a"), x -> {
            for (int i : new int[] {-1, 5, 299, 300, Given.LEAST, Given.GREATEST}) {
                check.due("lose(" + i + ")", Given.UNKNOWN, x.lose(i));
            }
        });
        check.due("nothing is on the way", Given.UNKNOWN, new SignRow().lose(0));
    }

    /** It is not lost for want of room. */
    static void itIsNotLostForWantOfRoom(Check check) {
        SignRow x = Given.text("ab");
        x.lose(0);
        x.lose(3);
        check.due("lost for want of room", 0, x.count(2));
    }

    static void theLastOfThreeHundred(Check check) {
        SignRow x = Given.messages(300);
        check.due("300", Given.UNKNOWN, x.lose(300));
        check.due("299", 299, x.lose(299));
        check.due("299 is no more", Given.UNKNOWN, x.lose(299));
        check.message("the last now", x, 298, 59, 4);
        check.due("there is room for one", 300, x.repeat(0));
    }
}
