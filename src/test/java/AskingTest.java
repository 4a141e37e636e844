/** Promises 12 to 20: what is asked of texts, signs, cursors, replicas and deeds. */
public final class AskingTest {
    private static final int UNKNOWN = -101, OUTSIDE = -102;
    private static final int[] NO_REPLICAS = {-1, 6, Integer.MIN_VALUE, Integer.MAX_VALUE};
    private static final Check check = new Check();

    public static void main(String[] args) {
        lengths();
        signs();
        paths();
        kindsOfTheLatest();
        kindsByTimesNotNumbers();
        kindsBetweenPaths();
        kindsWrongly();
        cursors();
        cursorsStayWithSigns();
        replicas();
        sameTexts();
        sameKinds();
        deeds();
        check.end();
    }

    /** Types with the STEP that is wanted (1 .. 10, if ten are free). */
    private static int typeBy(SignRow x, int step, int r, int place, int sign) {
        x.stream(r, Check.streamFor(step - 1));
        return x.type(r, place, sign);
    }

    private static void lengths() {
        SignRow x = new SignRow();
        x.paste(3, 0, 5, 97);
        check.due("five", 5, x.length(3));
        x.erase(3, 2);
        check.due("four live", 4, x.length(3));
        x.undo(3);
        check.due("five again", 5, x.length(3));
        check.due("another's", 0, x.length(2));
        for (int r : NO_REPLICAS) {
            check.due("length", UNKNOWN, x.length(r));
        }
    }

    private static void signs() {
        SignRow x = new SignRow();
        x.paste(0, 0, 3, 97);
        x.erase(0, 1);
        check.due("the first", 97, x.sign(0, 0));
        check.due("the second that lives", 99, x.sign(0, 1));
        for (int place : new int[] {-1, 2, Integer.MIN_VALUE, Integer.MAX_VALUE}) {
            check.outOfBounds("sign(0, " + place + ")", () -> x.sign(0, place));
        }
        check.outOfBounds("sign(1, 0)", () -> x.sign(1, 0));
        for (int r : NO_REPLICAS) {
            check.outOfBounds("sign(" + r + ", 0)", () -> x.sign(r, 0));
        }
    }

    private static void paths() {
        SignRow x = new SignRow();
        typeBy(x, 1, 4, 0, 97);
        typeBy(x, 1, 4, 0, 98);
        check.due("levels", 2, x.path(4, 0, 0, 0));
        check.due("level is not asked", 2, x.path(4, 0, -9, 0));
        check.due("level is not asked", 2, x.path(4, 0, 99, 0));
        check.path("two levels", x, 4, 0, 0, 4, 2, 31, 4, 2);
        check.path("one level", x, 4, 1, 1, 4, 1);
        check.outOfBounds("level 0", () -> x.path(4, 0, 0, 1));
        check.outOfBounds("level 3", () -> x.path(4, 0, 3, 1));
        check.outOfBounds("level 2 of one", () -> x.path(4, 1, 2, 3));
        check.outOfBounds("level least", () -> x.path(4, 0, Integer.MIN_VALUE, 2));
        check.outOfBounds("level greatest", () -> x.path(4, 0, Integer.MAX_VALUE, 2));
        check.outOfBounds("what 4", () -> x.path(4, 0, 1, 4));
        check.outOfBounds("what -1", () -> x.path(4, 0, 1, -1));
        check.outOfBounds("place 2", () -> x.path(4, 2, 1, 0));
        check.outOfBounds("place -1", () -> x.path(4, -1, 1, 0));
        check.outOfBounds("an empty text", () -> x.path(0, 0, 1, 0));
        for (int r : NO_REPLICAS) {
            check.outOfBounds("path of " + r, () -> x.path(r, 0, 1, 0));
        }
    }

    private static void kindsOfTheLatest() {
        SignRow x = new SignRow();
        x.paste(0, 0, 3, 97);
        x.sync(1, 0);
        x.mark(0, 0, 2, 2, true);
        x.mark(1, 1, 2, 2, false);
        check.due("alike times", x.deed(3, 2), x.deed(4, 2));
        check.due("on, as 0 knows", 4, x.kinds(0, 1));
        check.due("off, as 1 knows", 0, x.kinds(1, 1));
        x.sync(0, 1);
        x.sync(1, 0);
        for (int r = 0; r < 2; r++) {
            check.due("0's alone", 4, x.kinds(r, 0));
            check.due("the greater replica's is later", 0, x.kinds(r, 1));
            check.due("the greater replica's is later", 0, x.kinds(r, 2));
        }
        x.mark(0, 1, 1, 2, true);
        check.due("a later time", 4, x.kinds(0, 1));
        check.due("only there", 0, x.kinds(0, 2));
        x.sync(1, 0);
        check.due("there too", 4, x.kinds(1, 1));

        SignRow y = new SignRow();
        y.type(0, 0, 97);
        y.sync(1, 0);
        y.mark(1, 0, 0, 6, true);
        y.type(0, 0, 98);
        y.mark(0, 1, 1, 6, false);
        y.mark(0, 1, 1, 5, true);
        y.sync(0, 1);
        check.due("an earlier one that comes late", 32, y.kinds(0, 1));
        y.sync(1, 0);
        check.due("a later one that comes late", 32, y.kinds(1, 1));
        for (int kind = 0; kind < 8; kind++) {
            y.mark(1, 1, 1, kind, true);
        }
        check.due("all kinds", 255, y.kinds(1, 1));
        check.due("none", 0, y.kinds(1, 0));
    }

    private static void kindsByTimesNotNumbers() {
        SignRow x = new SignRow();
        x.type(0, 0, 97);
        x.sync(1, 0);
        x.mark(0, 0, 0, 3, false);
        x.mark(0, 0, 0, 3, true);
        check.due("1's mark has the greatest number, but time 2", 2, x.deed(x.mark(1, 0, 0, 3, false), 2));
        x.sync(0, 1);
        x.sync(1, 0);
        check.due("0's mark of time 3 is later", 8, x.kinds(0, 0));
        check.due("there too", 8, x.kinds(1, 0));
    }

    private static void kindsBetweenPaths() {
        SignRow x = new SignRow();
        typeBy(x, 2, 0, 0, 97);
        typeBy(x, 8, 0, 1, 99);
        x.mark(0, 0, 1, 0, true);
        typeBy(x, 2, 0, 1, 98);
        check.due("typed between, behind the mark", 1, x.kinds(0, 1));
        typeBy(x, 1, 0, 3, 100);
        check.due("behind its end", 0, x.kinds(0, 3));
        typeBy(x, 1, 0, 0, 96);
        check.due("before its beginning", 0, x.kinds(0, 0));
        x.erase(0, 1);
        x.erase(0, 2);
        check.text("its ends are erased", x, 0, "`bd");
        check.due("between erased signs", 1, x.kinds(0, 1));
        check.due("before", 0, x.kinds(0, 0));
        check.due("behind", 0, x.kinds(0, 2));
        x.mark(0, 0, 2, 1, true);
        x.undo(0);
        check.text("one is back", x, 0, "`bcd");
        check.due("it was marked, not living", 3, x.kinds(0, 2));
        typeBy(x, 3, 2, 0, 122);
        x.sync(0, 2);
        check.text("another's sign", x, 0, "`zbcd");
        check.due("is between too", 3, x.kinds(0, 1));
    }

    private static void kindsWrongly() {
        SignRow x = new SignRow();
        x.type(0, 0, 97);
        check.outOfBounds("kinds(0, 1)", () -> x.kinds(0, 1));
        check.outOfBounds("kinds(0, -1)", () -> x.kinds(0, -1));
        check.outOfBounds("kinds(1, 0)", () -> x.kinds(1, 0));
        for (int r : NO_REPLICAS) {
            check.outOfBounds("kinds of " + r, () -> x.kinds(r, 0));
        }
    }

    private static void cursors() {
        SignRow x = new SignRow();
        x.paste(0, 0, 4, 97);
        check.due("it was at the beginning", 0, x.cursor(0, 0, 4));
        check.due("it was at the end", 4, x.cursor(0, 0, 2));
        check.due("at", 2, x.at(0, 0));
        check.due("another cursor", 0, x.cursor(0, 3, 1));
        check.due("each its own", 2, x.at(0, 0));
        check.due("each its own", 1, x.at(0, 3));
        check.due("another replica's", 0, x.at(1, 0));
        check.due("to the beginning", 2, x.cursor(0, 0, 0));
        check.due("at", 0, x.at(0, 0));
        check.due("place 5", OUTSIDE, x.cursor(0, 0, 5));
        check.due("place -1", OUTSIDE, x.cursor(0, 0, -1));
        check.due("place least", OUTSIDE, x.cursor(0, 0, Integer.MIN_VALUE));
        for (int k : new int[] {-1, 4, Integer.MIN_VALUE, Integer.MAX_VALUE}) {
            check.due("cursor", OUTSIDE, x.cursor(0, k, 0));
            check.due("at", OUTSIDE, x.at(0, k));
        }
        for (int r : NO_REPLICAS) {
            check.due("cursor", UNKNOWN, x.cursor(r, 0, 0));
            check.due("at", UNKNOWN, x.at(r, 0));
            check.due("cursor, all wrong", UNKNOWN, x.cursor(r, 9, 9));
            check.due("at, all wrong", UNKNOWN, x.at(r, 9));
        }
    }

    private static void cursorsStayWithSigns() {
        SignRow x = new SignRow();
        typeBy(x, 3, 0, 0, 97);
        typeBy(x, 3, 0, 1, 98);
        typeBy(x, 3, 0, 2, 99);
        x.cursor(0, 1, 2);
        x.cursor(0, 2, 0);
        typeBy(x, 1, 0, 0, 120);
        check.due("a sign before it", 3, x.at(0, 1));
        check.due("one at the beginning stays there", 0, x.at(0, 2));
        typeBy(x, 1, 0, 3, 121);
        check.text("typed where it is", x, 0, "xabyc");
        check.due("typed behind its sign", 3, x.at(0, 1));
        x.erase(0, 2);
        check.due("its sign is erased", 2, x.at(0, 1));
        x.erase(0, 1);
        check.due("one before it too", 1, x.at(0, 1));
        typeBy(x, 1, 1, 0, 122);
        x.sync(0, 1);
        check.text("another's sign", x, 0, "xzyc");
        check.due("before it", 2, x.at(0, 1));
        x.undo(0);
        x.undo(0);
        check.text("all are back", x, 0, "xzabyc");
        check.due("behind its sign again", 4, x.cursor(0, 1, 6));
        check.due("at the end", 6, x.at(0, 1));
    }

    private static void replicas() {
        SignRow x = new SignRow();
        x.paste(0, 0, 3, 97);
        x.erase(0, 0);
        x.type(1, 0, 120);
        x.sync(2, 0);
        x.sync(2, 1);
        check.due("of 0's", 4, x.about(2, 0, 0));
        check.due("of 1's", 1, x.about(2, 1, 0));
        check.due("of its own", 0, x.about(2, 2, 0));
        check.due("its own", 4, x.about(0, 0, 0));
        check.due("none waits", 0, x.about(2, 0, 1));
        check.due("time", 4, x.about(2, 0, 2));
        check.due("signs, living or not", 4, x.about(2, 0, 3));
        check.due("1's time", 1, x.about(1, 0, 2));
        check.due("the second of 0's waits at 4", 2, x.deliver(8));
        check.due("one waits", 1, x.about(4, 0, 1));
        for (int q : NO_REPLICAS) {
            check.due("q for 0", UNKNOWN, x.about(2, q, 0));
            check.due("q is not asked", 0, x.about(2, q, 1));
            check.due("q is not asked", 4, x.about(2, q, 2));
            check.due("q is not asked", 4, x.about(2, q, 3));
            check.due("what", OUTSIDE, x.about(2, q, 4));
            check.due("r", UNKNOWN, x.about(q, 0, 0));
            check.due("r", UNKNOWN, x.about(q, 0, 3));
            check.due("r before what", UNKNOWN, x.about(q, 0, 4));
        }
        check.due("what 4", OUTSIDE, x.about(2, 0, 4));
        check.due("what -1", OUTSIDE, x.about(2, 0, -1));
    }

    private static void sameTexts() {
        SignRow x = new SignRow();
        check.due("two empty ones", 1, x.same(0, 5));
        x.type(0, 0, 97);
        check.due("with itself", 1, x.same(0, 0));
        check.due("one has more", 0, x.same(0, 1));
        check.due("either way", 0, x.same(1, 0));
        x.erase(0, 0);
        check.due("one that does not live does not count", 1, x.same(0, 1));
        x.undo(0);
        x.sync(1, 0);
        check.due("the same sign", 1, x.same(0, 1));
        typeBy(x, 3, 2, 0, 97);
        check.due("the same byte by another path", 0, x.same(0, 2));
        for (int r : NO_REPLICAS) {
            check.due("same", UNKNOWN, x.same(r, 0));
            check.due("same", UNKNOWN, x.same(0, r));
        }
    }

    private static void sameKinds() {
        SignRow x = new SignRow();
        x.paste(0, 0, 3, 97);
        x.sync(1, 0);
        x.mark(0, 2, 2, 7, true);
        check.due("one has a kind more", 0, x.same(0, 1));
        x.mark(1, 2, 2, 7, true);
        check.due("the same kinds by other marks", 1, x.same(0, 1));
        x.mark(1, 0, 0, 1, false);
        check.due("off is as never on", 1, x.same(1, 0));
        x.mark(1, 1, 1, 1, true);
        check.due("another sign's kind", 0, x.same(1, 0));
        x.erase(1, 1);
        x.erase(0, 1);
        check.due("kinds of what does not live do not count", 1, x.same(0, 1));
    }

    private static void deeds() {
        SignRow x = new SignRow();
        x.type(5, 0, 97);
        x.type(5, 1, 98);
        x.sync(3, 5);
        x.mark(3, 1, 1, 6, true);
        x.erase(3, 1);
        x.undo(3);
        x.mark(3, 0, 1, 6, false);
        int[][] want = {
            {5, 1, 1, 0, 97, 0}, {5, 2, 2, 0, 98, 1}, {3, 1, 3, 3, 14, 1},
            {3, 2, 4, 1, 0, 1}, {3, 3, 5, 2, 0, 1}, {3, 4, 6, 3, 6, 0},
        };
        for (int d = 0; d < want.length; d++) {
            for (int what = 0; what < 6; what++) {
                check.due("deed(" + d + ", " + what + ")", want[d][what], x.deed(d, what));
            }
            check.due("what 6", OUTSIDE, x.deed(d, 6));
            check.due("what -1", OUTSIDE, x.deed(d, -1));
        }
        for (int d : new int[] {-1, 6, 399, 400, Integer.MIN_VALUE, Integer.MAX_VALUE}) {
            check.due("deed", UNKNOWN, x.deed(d, 0));
            check.due("deed, all wrong", UNKNOWN, x.deed(d, 6));
        }
    }
}
