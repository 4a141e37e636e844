/** Promise 16: cursor: cursor k (0 .. 3) is set to a place (0 .. length): what its PLACE was. */
public final class Promise16CursorTest {
    public static void main(String[] args) {
        Check.runAll(Promise16CursorTest.class);
    }

    static void theAnswerIsWhatItsPlaceWas(Check check) {
        SignRow x = Given.text("abcd");
        check.due("at the beginning", 0, x.cursor(0, 0, 4));
        check.due("at the end", 4, x.cursor(0, 0, 2));
        check.due("between", 2, x.cursor(0, 0, 2));
        check.due("where it was", 2, x.cursor(0, 0, 0));
        check.due("at the beginning", 0, x.cursor(0, 0, 0));
    }

    /** What its PLACE was by now, not by when it was set. */
    static void whatItsPlaceWasBehindAType(Check check) {
        SignRow x = Given.text("abcd");
        x.cursor(0, 2, 3);
        x.type(0, 0, 'x');
        check.due("one sign more is before it", 4, x.cursor(0, 2, 0));
        x.cursor(0, 2, 5);
        x.erase(0, 4);
        x.erase(0, 0);
        check.due("its own and one before it are erased", 3, x.cursor(0, 2, 1));
    }

    /** "Cursor k (0 .. 3)": four, and each replica has its own. */
    static void fourOfEachReplica(Check check) {
        SignRow x = Given.textOfAll("abcd");
        for (int r = 0; r < 6; r++) {
            for (int k = 0; k < 4; k++) {
                check.due("set", 0, x.cursor(r, k, (r + k) % 5));
            }
        }
        for (int r = 0; r < 6; r++) {
            for (int k = 0; k < 4; k++) {
                check.due("each at its own", (r + k) % 5, x.at(r, k));
            }
        }
    }

    /** "A place (0 .. length: behind the sign before it)". */
    static void itStaysBehindTheSignBeforeIt(Check check) {
        SignRow x = Given.text("ab");
        x.cursor(0, 0, 1);
        x.type(0, 1, 'x');
        check.due("typed where it is: behind it", 1, x.at(0, 0));
        x.type(0, 0, 'y');
        check.due("typed before it", 2, x.at(0, 0));
    }

    /** "OUTSIDE (k ..)". */
    static void cursorsOutside(Check check) {
        check.changesNothing("refused calls", () -> Given.text("abc"), x -> {
            for (int k : new int[] {-1, 4, Given.LEAST, Given.GREATEST}) {
                check.due("k " + k, Given.OUTSIDE, x.cursor(0, k, 1));
            }
        });
    }

    /** "OUTSIDE (.. place)": the cursor stays where it was. */
    static void placesOutside(Check check) {
        SignRow x = Given.text("abc");
        x.cursor(0, 3, 2);
        for (int place : new int[] {-1, 4, Given.LEAST, Given.GREATEST}) {
            check.due("place " + place, Given.OUTSIDE, x.cursor(0, 3, place));
            check.due("it stays", 2, x.at(0, 3));
        }
        check.due("an empty text has only 0", Given.OUTSIDE, x.cursor(1, 0, 1));
        check.due("which is fine", 0, x.cursor(1, 0, 0));
        x.erase(0, 0);
        check.due("the length is 2 now", Given.OUTSIDE, x.cursor(0, 3, 3));
    }

    /** "UNKNOWN (replica)", which is named before OUTSIDE. */
    static void noSuchReplica(Check check) {
        check.changesNothing("refused calls", () -> Given.text("abc"), x -> {
            for (int r : Given.NO_REPLICAS) {
                check.due("replica " + r, Given.UNKNOWN, x.cursor(r, 0, 0));
                check.due("all is wrong", Given.UNKNOWN, x.cursor(r, 4, -1));
            }
        });
    }
}
