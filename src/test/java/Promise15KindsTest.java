/** Promise 15: kinds: the KINDS of the sign at a place, as bits. IndexOutOfBoundsException. */
public final class Promise15KindsTest {
    public static void main(String[] args) {
        Check.runAll(Promise15KindsTest.class);
    }

    private static void kinds(Check check, String when, SignRow x, int r, int... want) {
        for (int i = 0; i < want.length; i++) {
            check.due(when + ": kinds of " + i, want[i], x.kinds(r, i));
        }
    }

    /** "As bits": none, each alone, all eight. */
    static void fromNoneToAllEight(Check check) {
        SignRow x = Given.text("a");
        check.due("none", 0, x.kinds(0, 0));
        for (int kind = 0; kind < 8; kind++) {
            x.mark(0, 0, 0, kind, true);
            check.due("up to " + kind, (2 << kind) - 1, x.kinds(0, 0));
        }
        for (int kind = 0; kind < 8; kind++) {
            x.mark(0, 0, 0, kind, false);
            check.due("without those up to " + kind, 256 - (2 << kind), x.kinds(0, 0));
        }
    }

    /** "From a sign to a sign (both with what is between by paths ..)". */
    static void theEndsAndWhatIsBesideThem(Check check) {
        SignRow x = Given.text("abcdef");
        x.mark(0, 1, 4, 0, true);
        x.mark(0, 2, 2, 1, true);
        kinds(check, "marked", x, 0, 0, 1, 3, 1, 1, 0);
    }

    /** "Between by paths": what comes between later on is marked too, what comes beside is not. */
    static void whatComesBetweenLaterOn(Check check) {
        SignRow x = Given.digits(3, 8);
        x.mark(0, 0, 1, 0, true);
        Given.typeByStep(x, 1, 0, 1, 'm');
        Given.typeByStep(x, 1, 0, 3, 'y');
        Given.typeByStep(x, 1, 0, 0, 'A');
        check.text("typed", x, 0, "Aamby");
        kinds(check, "its own", x, 0, 0, 1, 1, 1, 0);
        Given.typeByStep(x, 6, 2, 0, 'n');
        x.sync(0, 2);
        check.text("another's", x, 0, "Aamnby");
        kinds(check, "another's", x, 0, 0, 1, 1, 1, 1, 0);
    }

    /** "(.. living or not)": the ends may be erased, and what is between may be raised. */
    static void erasedSignsAreMarkedToo(Check check) {
        SignRow x = Given.text("abcd");
        x.mark(0, 1, 2, 0, true);
        x.erase(0, 1);
        x.erase(0, 1);
        check.text("both ends are erased", x, 0, "ad");
        kinds(check, "beside them", x, 0, 0, 0);
        x.mark(0, 0, 1, 3, true);
        x.undo(0);
        x.undo(0);
        check.text("both are back", x, 0, "abcd");
        kinds(check, "marked while they did not live", x, 0, 8, 9, 9, 8);
    }

    static void betweenErasedEnds(Check check) {
        SignRow x = Given.text("abc");
        x.mark(0, 0, 2, 0, true);
        x.erase(0, 2);
        x.erase(0, 0);
        kinds(check, "the one between", x, 0, 1);
    }

    /** "The latest MARK of that kind that was done here, and has it between its signs". */
    static void theLatestThatHasIt(Check check) {
        SignRow x = Given.text("abc");
        x.mark(0, 0, 2, 5, true);
        x.mark(0, 1, 2, 5, false);
        x.mark(0, 2, 2, 5, true);
        x.mark(0, 0, 2, 4, false);
        kinds(check, "each by its own latest", x, 0, 32, 0, 32);
    }

    /** "LATER is the deed with the greater TIME": not the greater number, nor the one that came last. */
    static void laterByTimes(Check check) {
        SignRow x = Given.textOfAll("a");
        x.mark(0, 0, 0, 3, false);
        x.mark(0, 0, 0, 3, true);
        check.due("1's has the greatest number, but TIME 2", 2, x.deed(x.mark(1, 0, 0, 3, false), 2));
        x.sync(0, 1);
        x.sync(1, 0);
        kinds(check, "0's of TIME 3", x, 0, 8);
        kinds(check, "there too", x, 1, 8);
    }

    /** "Of like ones that of the greater replica". */
    static void laterByReplicas(Check check) {
        SignRow x = Given.textOfAll("ab");
        x.mark(4, 0, 1, 2, false);
        x.mark(1, 0, 0, 2, true);
        x.mark(5, 1, 1, 2, true);
        check.due("like TIMES", x.deed(2, 2), x.deed(3, 2));
        check.due("like TIMES", x.deed(2, 2), x.deed(4, 2));
        int[] told = {1, 4, 5, 3};
        for (int i = 0; i < 4; i++) {
            for (int q : new int[] {5, 1, 4}) {
                x.sync(told[i], q);
            }
            kinds(check, "4 before 1, 5 before 4", x, told[i], 0, 4);
        }
    }

    /** "That was done here": not one that is on the way, nor one that waits. */
    static void whatWasNotDoneHere(Check check) {
        SignRow x = Given.textOfAll("a");
        x.mark(1, 0, 0, 0, false);
        x.mark(1, 0, 0, 0, true);
        kinds(check, "there", x, 1, 1);
        kinds(check, "here, on the way", x, 2, 0);
        check.due("the second waits", 2, Given.bring(x, 2, 2));
        kinds(check, "here, waiting", x, 2, 0);
        check.due("the first comes", 1, Given.bring(x, 1, 2));
        kinds(check, "here, done", x, 2, 1);
    }

    /** "IndexOutOfBoundsException": place. */
    static void placesOutside(Check check) {
        SignRow x = Given.text("abc");
        for (int place : new int[] {-1, 3, 400, Given.LEAST, Given.GREATEST}) {
            check.outOfBounds("kinds(0, " + place + ")", () -> x.kinds(0, place));
        }
        check.outOfBounds("an empty text", () -> x.kinds(1, 0));
        x.erase(0, 0);
        check.outOfBounds("one is erased", () -> x.kinds(0, 2));
    }

    /** "IndexOutOfBoundsException": replica. */
    static void noSuchReplica(Check check) {
        SignRow x = Given.textOfAll("a");
        check.due("the last one", 0, x.kinds(5, 0));
        for (int r : Given.NO_REPLICAS) {
            check.outOfBounds("kinds(" + r + ", 0)", () -> x.kinds(r, 0));
        }
    }
}
