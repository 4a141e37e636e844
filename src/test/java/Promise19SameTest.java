/** Promise 19: same: whether two replicas have the same TEXT, and the same KINDS of each sign: 1, 0. UNKNOWN. */
public final class Promise19SameTest {
    public static void main(String[] args) {
        Check.runAll(Promise19SameTest.class);
    }

    private static void both(Check check, String when, int want, SignRow x, int r, int q) {
        check.due(when, want, x.same(r, q));
        check.due(when + ", the other way", want, x.same(q, r));
    }

    static void emptyTexts(Check check) {
        both(check, "two empty ones", 1, new SignRow(), 0, 5);
        SignRow x = Given.text("a");
        both(check, "an empty one and another", 0, x, 0, 1);
        both(check, "two empty ones", 1, x, 1, 2);
    }

    static void withItself(Check check) {
        SignRow x = Given.text("abc");
        x.mark(0, 0, 1, 3, true);
        check.due("with signs", 1, x.same(0, 0));
        check.due("without", 1, x.same(4, 4));
    }

    static void oneSignMore(Check check) {
        SignRow x = Given.textOfAll("abc");
        both(check, "all alike", 1, x, 1, 2);
        x.type(1, 3, 'd');
        both(check, "one more at the end", 0, x, 1, 2);
        x.undo(1);
        both(check, "without it again", 1, x, 1, 2);
        x.erase(2, 0);
        both(check, "one less at the beginning", 0, x, 1, 2);
    }

    /** "(Signs and paths)": the same byte by another path is another sign. */
    static void theSameBytesByOtherPaths(Check check) {
        SignRow x = new SignRow();
        Given.typeByStep(x, 4, 0, 0, 'a');
        Given.typeByStep(x, 4, 1, 0, 'a');
        Given.typeByStep(x, 5, 2, 0, 'a');
        both(check, "another SITE", 0, x, 0, 1);
        both(check, "another DIGIT", 0, x, 0, 2);
    }

    /** The same: the same digits, another byte. */
    static void otherBytes(Check check) {
        SignRow x = new SignRow();
        Given.typeByStep(x, 4, 0, 0, 'a');
        Given.typeByStep(x, 4, 1, 0, 'b');
        both(check, "other signs", 0, x, 0, 1);
    }

    /** What does not live is not of the TEXT. */
    static void whatDoesNotLiveIsNotCompared(Check check) {
        SignRow x = Given.text("a");
        x.erase(0, 0);
        both(check, "one has a sign that does not live", 1, x, 0, 1);
        SignRow y = Given.textOfAll("ab");
        y.mark(1, 0, 0, 0, true);
        both(check, "a kind more", 0, y, 1, 2);
        y.erase(1, 0);
        y.erase(2, 0);
        both(check, "of what does not live", 1, y, 1, 2);
    }

    /** "The same KINDS of each sign": the first, the last. */
    static void kindsOfEachSign(Check check) {
        for (int place = 0; place < 3; place++) {
            for (int kind = 0; kind < 8; kind += 7) {
                SignRow x = Given.textOfAll("abc");
                x.mark(1, place, place, kind, true);
                both(check, "a kind more", 0, x, 1, 2);
                x.mark(2, place, place, kind, true);
                both(check, "the same kind by another mark", 1, x, 1, 2);
                x.mark(2, place, place, kind, false);
                both(check, "a kind less", 0, x, 1, 2);
            }
        }
    }

    static void offIsAsNeverOn(Check check) {
        SignRow x = Given.textOfAll("abc");
        x.mark(1, 0, 2, 3, false);
        both(check, "one mark more, but off", 1, x, 1, 2);
    }

    /** Cursors, TIMES, STREAMS and what waits are not asked. */
    static void nothingElseIsCompared(Check check) {
        SignRow x = Given.textOfAll("abc");
        x.cursor(1, 0, 2);
        x.stream(1, 99);
        x.erase(0, 0);
        x.undo(0);
        check.due("the RAISE waits at 1", 2, Given.bring(x, 4, 1));
        both(check, "all is the same", 1, x, 1, 2);
        both(check, "0 has done more", 1, x, 0, 1);
    }

    /** "UNKNOWN". */
    static void noSuchReplica(Check check) {
        SignRow x = Given.textOfAll("a");
        for (int r : Given.NO_REPLICAS) {
            both(check, "one", Given.UNKNOWN, x, r, 0);
            check.due("both", Given.UNKNOWN, x.same(r, r));
        }
    }
}
