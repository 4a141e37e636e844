/** Promises 1 to 7: a new object, and what writes: stream, type, paste, erase, undo, mark. */
public final class WritingTest {
    private static final int UNKNOWN = -101, OUTSIDE = -102, STATE = -103, ROOM = -104;
    private static final Check check = new Check();

    public static void main(String[] args) {
        newObject();
        constants();
        streams();
        coins();
        typedAtPlaces();
        pathsLevelByLevel();
        pathsBetweenReplicas();
        pathsBesideErasedSigns();
        thirteenthLevel();
        typedWrongly();
        pasted();
        pastedWithoutRoom();
        erased();
        fourHundredDeeds();
        undone();
        undoneOfOthers();
        marked();
        wrongReplicas();
        check.end();
    }

    /** From this STREAM the next STEP is the one wanted (1 .. 10), where ten or more are free. */
    private static int step(int wanted) {
        return Check.streamFor(wanted - 1);
    }

    private static int typeBy(SignRow x, int step, int r, int place, int sign) {
        x.stream(r, step(step));
        return x.type(r, place, sign);
    }

    /** Always with STEP 1, before a sign of odd and behind one of even depth: each a level deeper. */
    private static void dive(SignRow x, int r, int levels) {
        for (int depth = 1; depth <= levels; depth++) {
            check.due("dive to " + depth, depth - 1, typeBy(x, 1, r, (depth - 1) / 2, 64 + depth));
            check.due("depth", depth, x.path(r, (depth - 1) / 2, 0, 0));
        }
    }

    private static void newObject() {
        SignRow x = new SignRow();
        for (int r = 0; r < 6; r++) {
            check.due("length", 0, x.length(r));
            check.due("time", 0, x.about(r, 0, 2));
            check.due("waiting", 0, x.about(r, 0, 1));
            check.due("signs", 0, x.about(r, 0, 3));
            check.due("same", 1, x.same(r, 5 - r));
            for (int q = 0; q < 6; q++) {
                check.due("done", 0, x.about(r, q, 0));
            }
            for (int k = 0; k < 4; k++) {
                check.due("at", 0, x.at(r, k));
            }
        }
        check.due("deeds", 0, x.count(0));
        check.due("on the way", 0, x.count(1));
        check.due("lost", 0, x.count(2));
        SignRow other = new SignRow();
        x.type(0, 0, 65);
        check.due("another object's deeds", 0, other.count(0));
        check.due("another object's text", 0, other.length(0));
    }

    private static void constants() {
        check.due("NONE", -1, SignRow.NONE);
        check.due("UNKNOWN", UNKNOWN, SignRow.UNKNOWN);
        check.due("OUTSIDE", OUTSIDE, SignRow.OUTSIDE);
        check.due("STATE", STATE, SignRow.STATE);
        check.due("ROOM", ROOM, SignRow.ROOM);
    }

    private static void streams() {
        SignRow x = new SignRow();
        for (int r = 0; r < 6; r++) {
            check.due("a stream at first", r, x.stream(r, -7 * r));
            check.due("a stream that was set", -7 * r, x.stream(r, Integer.MIN_VALUE));
        }
        check.due("stream(6)", UNKNOWN, x.stream(6, 1));
        check.due("stream(-1)", UNKNOWN, x.stream(-1, 1));
        check.due("the others' stay", Integer.MIN_VALUE, x.stream(5, 0));
        // A value may be the same number as UNKNOWN.
        x.stream(2, UNKNOWN);
        check.due("stream(2)", UNKNOWN, x.stream(2, 0));
    }

    private static void coins() {
        SignRow x = new SignRow();
        x.type(1, 0, 65);
        // 1 * 1664525 + 1013904223 = 1015568748; shifted by 16: 15496; 15496 modulo 10: 6.
        check.path("the first coin of 1", x, 1, 0, 7, 1, 1);
        check.due("the stream behind it", 1015568748, x.stream(1, -1));
        x.type(1, 0, 66);
        // 1012239698 from -1: coin 15445, of 6 free digits: 1 + 1.
        check.path("the coin of -1", x, 1, 0, 2, 1, 2);
        check.due("the stream behind it", 1012239698, x.stream(1, 5));
        x.stream(1, Check.streamFor(65535));
        x.type(1, 2, 67);
        // 65535 modulo the 8 digits from 8 to 15 is 7: shifted with signs, it would be below 0.
        check.path("the greatest coin", x, 1, 2, 15, 1, 3);
    }

    private static void typedAtPlaces() {
        SignRow x = new SignRow();
        check.due("type", 0, x.type(0, 0, 98));
        check.due("type behind", 1, x.type(0, 1, 100));
        check.due("type before", 2, x.type(0, 0, 97));
        check.due("type between", 3, x.type(0, 2, 99));
        check.text("four", x, 0, "abcd");
        check.due("type the least", 4, x.type(0, 4, 32));
        check.due("type the greatest", 5, x.type(0, 5, 126));
        check.text("six", x, 0, "abcd ~");
        check.due("the n-th is counted for each", 6, x.type(3, 0, 120));
        check.path("by 3", x, 3, 0, x.path(3, 0, 1, 1), 3, 1);
    }

    private static void pathsLevelByLevel() {
        SignRow x = new SignRow();
        typeBy(x, 10, 0, 0, 65);
        check.path("odd: from P on", x, 0, 0, 10, 0, 1);
        typeBy(x, 5, 0, 1, 66);
        check.path("to the base 16", x, 0, 1, 15, 0, 2);
        typeBy(x, 3, 0, 2, 67);
        check.path("even: from the base 32 back", x, 0, 2, 15, 0, 2, 29, 0, 3);
        typeBy(x, 2, 0, 3, 68);
        check.path("even: two are free", x, 0, 3, 15, 0, 2, 30, 0, 4);
        typeBy(x, 1, 0, 3, 69);
        check.path("none is free: p's level, then a third", x, 0, 3, 15, 0, 2, 29, 0, 3, 1, 0, 5);
        typeBy(x, 9, 0, 3, 70);
        check.path("before a digit 1: a digit 0", x, 0, 3, 15, 0, 2, 29, 0, 3, 0, 0, 6, 119, 0, 6);
        typeBy(x, 4, 0, 3, 71);
        check.path("before a digit 0: q's level", x, 0, 3, 15, 0, 2, 29, 0, 3, 0, 0, 6, 115, 0, 7);
        check.text("the order", x, 0, "ABCGFED");

        SignRow y = new SignRow();
        typeBy(y, 1, 0, 0, 65);
        typeBy(y, 1, 0, 0, 66);
        check.path("before the first", y, 0, 0, 0, 0, 2, 31, 0, 2);
        typeBy(y, 10, 0, 1, 67);
        check.path("p's last digit is the base's", y, 0, 1, 0, 0, 2, 31, 0, 2, 10, 0, 3);
        // STEP is of the least of 10 and what is free: 9 digits between 1 and 11.
        SignRow z = new SignRow();
        typeBy(z, 1, 0, 0, 65);
        typeBy(z, 10, 0, 1, 66);
        z.stream(0, Check.streamFor(9));
        z.type(0, 1, 67);
        check.path("9 modulo 9", z, 0, 1, 2, 0, 3);
        typeBy(z, 2, 0, 2, 68);
        check.path("1 modulo 8", z, 0, 2, 4, 0, 4);
        typeBy(z, 7, 0, 2, 69);
        check.path("one digit is free", z, 0, 2, 3, 0, 5);
    }

    private static void pathsBetweenReplicas() {
        SignRow x = new SignRow();
        typeBy(x, 5, 2, 0, 99);
        typeBy(x, 5, 1, 0, 98);
        typeBy(x, 5, 1, 0, 97);
        check.path("4 modulo the 4 digits below 5", x, 1, 0, 1, 1, 2);
        x.sync(2, 1);
        check.text("digits, then sites", x, 2, "abc");
        typeBy(x, 7, 2, 2, 120);
        // p and q are alike but for their sites: q is no bound behind p's level.
        check.path("between two sites", x, 2, 2, 5, 1, 1, 25, 2, 2);
        typeBy(x, 7, 2, 2, 121);
        check.path("p ends where q goes on", x, 2, 2, 5, 1, 1, 18, 2, 3);
        check.text("between", x, 2, "abyxc");
        x.sync(1, 2);
        check.due("both have the same", 1, x.same(1, 2));

        SignRow y = new SignRow();
        typeBy(y, 1, 0, 0, 65);
        typeBy(y, 1, 0, 0, 66);
        y.sync(4, 0);
        typeBy(y, 2, 4, 0, 67);
        check.path("q's level of digit 0 with q's site", y, 4, 0, 0, 0, 2, 29, 4, 1);
        typeBy(y, 1, 5, 0, 68);
        y.sync(4, 5);
        check.text("sites in order behind equal digits", y, 4, "CBAD");
    }

    private static void pathsBesideErasedSigns() {
        SignRow x = new SignRow();
        typeBy(x, 4, 0, 0, 65);
        typeBy(x, 4, 0, 1, 66);
        check.due("erase", 2, x.erase(0, 1));
        typeBy(x, 10, 0, 1, 67);
        // 9 modulo the 3 digits between 4 and 8.
        check.path("before one that does not live", x, 0, 1, 5, 0, 4);
        x.erase(0, 0);
        typeBy(x, 9, 0, 0, 68);
        // The beginning, not the erased sign, is before it: 8 modulo the 3 digits below 4.
        check.path("before all", x, 0, 0, 3, 0, 6);
        x.undo(0);
        x.undo(0);
        x.undo(0);
        check.text("back again", x, 0, "A");
        x.undo(0);
        check.text("and the first one erased", x, 0, "AB");
    }

    private static void thirteenthLevel() {
        SignRow x = new SignRow();
        dive(x, 0, 12);
        check.due("base of 9 and above: 4096", 4095, x.path(0, 5, 12, 1));
        check.due("base of 10", 4095, x.path(0, 4, 10, 1));
        check.due("base of 8", 2047, x.path(0, 3, 8, 1));
        x.stream(0, 77);
        check.due("a 13th level", ROOM, x.type(0, 6, 65));
        check.due("no coin is thrown", 77, x.stream(0, 77));
        check.due("paste there", 0, x.paste(0, 6, 20, 65));
        check.due("no coin by that", 77, x.stream(0, 78));
        check.due("no deed", 12, x.count(0));
        check.due("no message", 60, x.count(1));
        check.due("no sign", 12, x.length(0));
        check.due("no time", 12, x.about(0, 0, 2));
        check.due("elsewhere there is room", 12, x.type(0, 12, 66));
        check.due("its count", 13, x.path(0, 12, 1, 3));

        SignRow y = new SignRow();
        dive(y, 3, 11);
        y.stream(3, step(1));
        check.due("one of five", 1, y.paste(3, 5, 5, 70));
        check.text("it came", y, 3, "BDFHJFKIGECA");
    }

    private static void typedWrongly() {
        SignRow x = new SignRow();
        x.type(0, 0, 65);
        check.due("place 2", OUTSIDE, x.type(0, 2, 65));
        check.due("place -1", OUTSIDE, x.type(0, -1, 65));
        check.due("place least", OUTSIDE, x.type(0, Integer.MIN_VALUE, 65));
        check.due("place greatest", OUTSIDE, x.type(0, Integer.MAX_VALUE, 65));
        check.due("sign 31", OUTSIDE, x.type(0, 0, 31));
        check.due("sign 127", OUTSIDE, x.type(0, 0, 127));
        check.due("another's place", OUTSIDE, x.type(1, 1, 65));
        check.due("nothing was done", 1, x.count(0));
    }

    private static void pasted() {
        SignRow x = new SignRow();
        check.due("paste one", 1, x.paste(0, 0, 1, 97));
        check.due("paste three before", 3, x.paste(0, 0, 3, 120));
        check.due("paste twenty between", 20, x.paste(0, 3, 20, 48));
        check.text("one behind the other", x, 0, "xyz0123456789:;<=>?@ABCa");
        check.due("deeds", 24, x.count(0));
        check.due("messages", 120, x.count(1));
        check.due("each has a time", 24, x.about(0, 0, 2));
        check.due("paste over the end", 4, x.paste(1, 0, 4, 125));
        check.text("126, then 32", x, 1, "}~ !");
        check.due("paste from 126", 2, x.paste(2, 0, 2, 126));
        check.text("126, then 32", x, 2, "~ ");
        check.due("n 0", OUTSIDE, x.paste(0, 0, 0, 97));
        check.due("n 21", OUTSIDE, x.paste(0, 0, 21, 97));
        check.due("n -1", OUTSIDE, x.paste(0, 0, -1, 97));
        check.due("n least", OUTSIDE, x.paste(0, 0, Integer.MIN_VALUE, 97));
        check.due("place", OUTSIDE, x.paste(0, 25, 1, 97));
        check.due("place -1", OUTSIDE, x.paste(0, -1, 1, 97));
        check.due("sign 31", OUTSIDE, x.paste(0, 0, 1, 31));
        check.due("sign 127", OUTSIDE, x.paste(0, 0, 1, 127));
        check.due("nothing was done", 30, x.count(0));
    }

    private static void pastedWithoutRoom() {
        SignRow x = new SignRow();
        fill(x, 390);
        check.due("ten of twenty", 10, x.paste(5, 0, 20, 65));
        check.text("ten", x, 5, "ABCDEFGHIJ");
        check.due("none of twenty", 0, x.paste(4, 0, 20, 65));
        check.due("wrong all the same", OUTSIDE, x.paste(4, 1, 20, 65));
    }

    /** As many deeds (of ten each) by replicas 0 and 1. */
    private static void fill(SignRow x, int deeds) {
        for (int i = 0; i < deeds / 10; i++) {
            check.due("fill", 10, x.paste(i % 2, x.length(i % 2), 10, 40));
        }
        check.due("filled", deeds, x.count(0));
    }

    private static void erased() {
        SignRow x = new SignRow();
        x.paste(0, 0, 4, 97);
        check.due("erase", 4, x.erase(0, 1));
        check.text("without b", x, 0, "acd");
        check.due("erase the next", 5, x.erase(0, 1));
        check.text("without c", x, 0, "ad");
        check.due("erased signs stay", 4, x.about(0, 0, 3));
        check.due("it names b", 1, x.deed(4, 5));
        check.due("place 2", OUTSIDE, x.erase(0, 2));
        check.due("place -1", OUTSIDE, x.erase(0, -1));
        check.due("place least", OUTSIDE, x.erase(0, Integer.MIN_VALUE));
        check.due("nothing was done", 6, x.count(0));
        check.due("six deeds' messages", 30, x.count(1));
    }

    private static void fourHundredDeeds() {
        SignRow x = new SignRow();
        fill(x, 390);
        check.due("type", 390, x.type(2, 0, 65));
        check.due("paste", 7, x.paste(2, 0, 7, 65));
        check.due("mark", 398, x.mark(2, 0, 0, 1, true));
        check.due("the last", 399, x.erase(0, 0));
        int stream = x.stream(2, 4);
        x.stream(2, stream);
        check.due("type", ROOM, x.type(2, 0, 65));
        check.due("no coin is thrown", stream, x.stream(2, stream));
        check.due("erase", ROOM, x.erase(2, 0));
        check.due("mark", ROOM, x.mark(2, 0, 0, 1, false));
        check.due("undo", ROOM, x.undo(2));
        check.due("still there to be undone", ROOM, x.undo(2));
        check.due("nothing to be undone", STATE, x.undo(3));
        check.due("type outside", OUTSIDE, x.type(2, 9, 65));
        check.due("erase outside", OUTSIDE, x.erase(2, 8));
        check.due("mark outside", OUTSIDE, x.mark(2, 0, 8, 1, true));
        check.due("the text stays", 8, x.length(2));
        check.due("400", 400, x.count(0));
        check.due("messages stay", 300, x.count(1));
        check.due("the rest is lost", 1700, x.count(2));
        check.due("all can be learnt", 400, x.sync(5, 0) + x.sync(5, 1) + x.sync(5, 2));
    }

    private static void undone() {
        SignRow x = new SignRow();
        check.due("none", STATE, x.undo(0));
        x.type(0, 0, 97);
        x.type(0, 1, 98);
        x.erase(0, 0);
        x.mark(0, 0, 0, 5, true);
        check.due("the erase", 4, x.undo(0));
        check.due("is a raise", 2, x.deed(4, 3));
        check.due("of a", 0, x.deed(4, 5));
        check.due("of no value", 0, x.deed(4, 4));
        check.text("a is back", x, 0, "ab");
        check.due("the second type", 5, x.undo(0));
        check.due("is an erase", 1, x.deed(5, 3));
        check.due("of b", 1, x.deed(5, 5));
        check.text("b is gone", x, 0, "a");
        check.due("the first type", 6, x.undo(0));
        check.text("nothing", x, 0, "");
        check.due("none is left: no undoing is undone", STATE, x.undo(0));
        check.due("messages of each", 35, x.count(1));
        check.due("type again", 7, x.type(0, 0, 99));
        check.due("undo that", 8, x.undo(0));
        check.due("none is left", STATE, x.undo(0));
    }

    private static void undoneOfOthers() {
        SignRow x = new SignRow();
        x.type(0, 0, 97);
        x.sync(1, 0);
        check.due("erased by 1", 1, x.erase(1, 0));
        check.due("3 has none", STATE, x.undo(3));
        x.sync(0, 1);
        check.due("0 undoes its own type", 2, x.undo(0));
        x.sync(1, 0);
        check.due("1 raises it", 3, x.undo(1));
        check.text("that was later", x, 1, "a");
        check.text("0 did not hear", x, 0, "");
        x.sync(0, 1);
        check.text("now it did", x, 0, "a");

        SignRow y = new SignRow();
        y.type(0, 0, 97);
        y.sync(1, 0);
        y.erase(0, 0);
        y.erase(1, 0);
        check.due("0's raise, of time 3", 3, y.undo(0));
        y.sync(0, 1);
        check.text("1's erase, of time 2, came later but is not", y, 0, "a");
        y.sync(1, 0);
        check.text("so it is there", y, 1, "a");

        SignRow w = new SignRow();
        w.type(0, 0, 97);
        w.sync(1, 0);
        w.erase(0, 0);
        w.undo(0);
        check.due("1's erase has the greatest number, but time 2", 2, w.deed(w.erase(1, 0), 2));
        w.sync(0, 1);
        w.sync(1, 0);
        check.text("0's raise of time 3 is later", w, 0, "a");
        check.text("there too", w, 1, "a");

        SignRow z = new SignRow();
        z.type(0, 0, 97);
        z.sync(5, 0);
        z.erase(0, 0);
        z.type(5, 0, 98);
        z.undo(0);
        z.erase(5, 1);
        check.due("times are alike", z.deed(3, 2), z.deed(4, 2));
        z.sync(0, 5);
        check.text("the greater replica's is later", z, 0, "b");
        z.sync(5, 0);
        check.text("there too", z, 5, "b");
    }

    private static void marked() {
        SignRow x = new SignRow();
        x.paste(0, 0, 5, 97);
        check.due("mark", 5, x.mark(0, 1, 3, 0, true));
        check.due("mark", 6, x.mark(0, 2, 2, 7, true));
        check.due("mark off", 7, x.mark(0, 3, 4, 0, false));
        int[] want = {0, 1, 129, 0, 0};
        for (int i = 0; i < 5; i++) {
            check.due("kinds of " + i, want[i], x.kinds(0, i));
        }
        check.due("what 4", 8, x.deed(5, 4));
        check.due("what 4", 15, x.deed(6, 4));
        check.due("what 4", 0, x.deed(7, 4));
        check.due("messages", 40, x.count(1));
        check.due("from above to", OUTSIDE, x.mark(0, 3, 2, 0, true));
        check.due("from -1", OUTSIDE, x.mark(0, -1, 2, 0, true));
        check.due("to 5", OUTSIDE, x.mark(0, 1, 5, 0, true));
        check.due("both far out", OUTSIDE, x.mark(0, Integer.MIN_VALUE, Integer.MAX_VALUE, 0, true));
        check.due("kind 8", OUTSIDE, x.mark(0, 1, 2, 8, true));
        check.due("kind -1", OUTSIDE, x.mark(0, 1, 2, -1, false));
        check.due("an empty text", OUTSIDE, x.mark(1, 0, 0, 0, true));
        check.due("nothing was done", 8, x.count(0));
        check.due("a mark is not undone", 8, x.undo(0));
        check.text("but the last type", x, 0, "abcd");
    }

    private static void wrongReplicas() {
        SignRow x = new SignRow();
        for (int r : new int[] {-1, 6, Integer.MIN_VALUE, Integer.MAX_VALUE}) {
            check.due("type", UNKNOWN, x.type(r, 0, 65));
            check.due("type with a wrong sign", UNKNOWN, x.type(r, 9, 0));
            check.due("paste", UNKNOWN, x.paste(r, 0, 1, 65));
            check.due("paste wrongly", UNKNOWN, x.paste(r, 9, 0, 0));
            check.due("erase", UNKNOWN, x.erase(r, 0));
            check.due("undo", UNKNOWN, x.undo(r));
            check.due("mark", UNKNOWN, x.mark(r, 0, 0, 0, true));
            check.due("mark wrongly", UNKNOWN, x.mark(r, 1, 0, 9, true));
        }
        check.due("nothing was done", 0, x.count(0));
    }
}
