/** Promise 7: mark: signs from a place to a place get a KIND, or are without it: the deed. */
public final class Promise07MarkTest {
    public static void main(String[] args) {
        Check.runAll(Promise07MarkTest.class);
    }

    private static void kinds(Check check, SignRow x, int r, int... want) {
        for (int i = 0; i < want.length; i++) {
            check.due("kinds of " + i, want[i], x.kinds(r, i));
        }
    }

    /** "From a place to a place (both ..)". */
    static void bothEndsAreMarked(Check check) {
        SignRow x = Given.text("abcde");
        check.due("mark", 5, x.mark(0, 1, 3, 0, true));
        kinds(check, x, 0, 0, 1, 1, 1, 0);
    }

    /** "(.. from not above to)": one sign, and all. */
    static void oneSignAndAll(Check check) {
        SignRow x = Given.text("abc");
        check.due("the first alone", 3, x.mark(0, 0, 0, 1, true));
        check.due("the last alone", 4, x.mark(0, 2, 2, 2, true));
        check.due("all", 5, x.mark(0, 0, 2, 3, true));
        kinds(check, x, 0, 10, 8, 12);
    }

    /** "OUTSIDE (places ..)": from above to. */
    static void fromAboveTo(Check check) {
        check.changesNothing("refused calls", () -> Given.text("abcd"), x -> {
            check.due("by one", Given.OUTSIDE, x.mark(0, 2, 1, 0, true));
            check.due("by all", Given.OUTSIDE, x.mark(0, 3, 0, 0, true));
        });
    }

    /** "OUTSIDE (places ..)". */
    static void placesOutside(Check check) {
        check.changesNothing("refused calls", () -> Given.text("abcd"), x -> {
            for (int place : new int[] {-1, 4, Given.LEAST, Given.GREATEST}) {
                check.due("from " + place, Given.OUTSIDE, x.mark(0, place, 3, 0, true));
                check.due("to " + place, Given.OUTSIDE, x.mark(0, 0, place, 0, true));
                check.due("both " + place, Given.OUTSIDE, x.mark(0, place, place, 0, true));
            }
            check.due("over all", Given.OUTSIDE, x.mark(0, Given.LEAST, Given.GREATEST, 0, true));
            check.due("an empty text", Given.OUTSIDE, x.mark(1, 0, 0, 0, true));
        });
    }

    /** "A KIND 0 .. 7". */
    static void theLeastAndTheGreatestKind(Check check) {
        SignRow x = Given.text("a");
        check.due("0", 1, x.mark(0, 0, 0, 0, true));
        check.due("7", 2, x.mark(0, 0, 0, 7, true));
        kinds(check, x, 0, 129);
    }

    /** "OUTSIDE (.. kind)". */
    static void kindsOutside(Check check) {
        check.changesNothing("refused calls", () -> Given.text("abcd"), x -> {
            for (int kind : new int[] {-1, 8, 15, Given.LEAST, Given.GREATEST}) {
                check.due("kind " + kind + " on", Given.OUTSIDE, x.mark(0, 0, 1, kind, true));
                check.due("kind " + kind + " off", Given.OUTSIDE, x.mark(0, 0, 1, kind, false));
            }
        });
    }

    /** "Or are without it". */
    static void off(Check check) {
        SignRow x = Given.text("abc");
        x.mark(0, 0, 2, 5, true);
        x.mark(0, 0, 2, 6, true);
        check.due("off", 5, x.mark(0, 1, 1, 5, false));
        kinds(check, x, 0, 96, 64, 96);
        check.due("off where it is off", 6, x.mark(0, 1, 1, 5, false));
        check.due("off what never was on", 7, x.mark(0, 0, 2, 1, false));
        kinds(check, x, 0, 96, 64, 96);
        check.due("on again", 8, x.mark(0, 1, 1, 5, true));
        kinds(check, x, 0, 96, 96, 96);
    }

    /** "UNKNOWN", which is named before OUTSIDE and ROOM. */
    static void noSuchReplica(Check check) {
        check.changesNothing("refused calls", () -> Given.text("abc"), x -> {
            for (int r : Given.NO_REPLICAS) {
                check.due("replica " + r, Given.UNKNOWN, x.mark(r, 0, 0, 0, true));
                check.due("all is wrong", Given.UNKNOWN, x.mark(r, 2, 1, 8, true));
            }
        });
        check.due("without room", Given.UNKNOWN, Given.deeds(400).mark(6, 0, 0, 0, true));
    }

    /** "ROOM". */
    static void fourHundredDeeds(Check check) {
        SignRow x = Given.deeds(399);
        check.due("the last one", 399, x.mark(0, 0, 398, 2, true));
        check.due("one more", Given.ROOM, x.mark(0, 0, 398, 2, false));
        check.due("the kinds stay", 4, x.kinds(0, 398));
        check.changesNothing("refused calls", () -> Given.deeds(400), y -> y.mark(0, 0, 399, 2, true));
    }

    /** OUTSIDE is named before ROOM. */
    static void outsideWithoutRoom(Check check) {
        SignRow x = Given.deeds(400);
        check.due("from above to", Given.OUTSIDE, x.mark(0, 1, 0, 0, true));
        check.due("to", Given.OUTSIDE, x.mark(0, 0, 400, 0, true));
        check.due("kind", Given.OUTSIDE, x.mark(0, 0, 0, 8, true));
    }

    /** Places are of the living signs; what is named is the sign, wherever it goes. */
    static void placesAreOfTheTextThatLives(Check check) {
        SignRow x = Given.text("abcd");
        x.erase(0, 1);
        check.due("c and d", 5, x.mark(0, 1, 2, 0, true));
        check.due("its first sign is c", 2, x.deed(5, 5));
        check.due("the length is 3 now", Given.OUTSIDE, x.mark(0, 0, 3, 0, true));
        x.undo(0);
        kinds(check, x, 0, 0, 0, 1, 1);
    }

    static void itIsSentToAllOthers(Check check) {
        SignRow x = Given.text("a");
        x.mark(0, 0, 0, 0, true);
        for (int i = 0; i < 5; i++) {
            check.message("sent", x, 5 + i, 1, 1 + i);
        }
    }
}
