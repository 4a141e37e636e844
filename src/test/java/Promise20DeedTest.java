/** Promise 20: deed: whose, its number there, its TIME, what it is, the sign or KIND, what it names. UNKNOWN, OUTSIDE. */
public final class Promise20DeedTest {
    public static void main(String[] args) {
        Check.runAll(Promise20DeedTest.class);
    }

    private static void deed(Check check, SignRow x, int d, int... want) {
        for (int what = 0; what < want.length; what++) {
            check.due("deed(" + d + ", " + what + ")", want[what], x.deed(d, what));
        }
    }

    /** "5 the TYPE of the (first) sign that it names (of a TYPE itself)". */
    static void aType(Check check) {
        SignRow x = new SignRow();
        x.type(5, 0, 126);
        x.type(0, 0, 32);
        x.type(5, 1, 'a');
        deed(check, x, 0, 5, 1, 1, 0, 126, 0);
        deed(check, x, 1, 0, 1, 1, 0, 32, 1);
        deed(check, x, 2, 5, 2, 2, 0, 'a', 2);
    }

    /** "(0 of ERASE, RAISE)". */
    static void anEraseAndARaise(Check check) {
        SignRow x = Given.text("abc");
        x.sync(3, 0);
        x.erase(3, 1);
        x.undo(3);
        deed(check, x, 3, 3, 1, 4, 1, 0, 1);
        deed(check, x, 4, 3, 2, 5, 2, 0, 1);
        x.undo(0);
        deed(check, x, 5, 0, 4, 4, 1, 0, 2);
    }

    /** "4 .. the KIND and 8 more if it is on"; "5 .. the (first) sign". */
    static void aMark(Check check) {
        SignRow x = Given.text("abc");
        x.mark(0, 1, 2, 0, false);
        x.mark(0, 1, 2, 0, true);
        x.mark(0, 2, 2, 7, false);
        x.mark(0, 0, 2, 7, true);
        deed(check, x, 3, 0, 4, 4, 3, 0, 1);
        deed(check, x, 4, 0, 5, 5, 3, 8, 1);
        deed(check, x, 5, 0, 6, 6, 3, 7, 2);
        deed(check, x, 6, 0, 7, 7, 3, 15, 0);
    }

    /** "The n-th of that one (n from 1 on)": deeds of all sorts, of that replica alone. */
    static void itsNumberThere(Check check) {
        SignRow x = new SignRow();
        for (int d = 0; d < 12; d++) {
            x.type(d % 6, 0, 'a');
        }
        for (int d = 0; d < 12; d++) {
            check.due("whose", d % 6, x.deed(d, 0));
            check.due("its number there", d / 6 + 1, x.deed(d, 1));
        }
    }

    /** "One above the greatest TIME that the replica has". */
    static void itsTime(Check check) {
        SignRow x = Given.text("abc");
        check.due("one who knows nothing", 1, x.deed(x.type(1, 0, 'x'), 2));
        x.deliver(1);
        check.due("one who knows the first", 2, x.deed(x.type(2, 0, 'y'), 2));
        x.sync(2, 0);
        check.due("one who knows all", 4, x.deed(x.type(2, 0, 'z'), 2));
    }

    /** "UNKNOWN", which is named before OUTSIDE. */
    static void noSuchDeed(Check check) {
        SignRow x = Given.text("abc");
        for (int d : new int[] {-1, 3, 399, 400, Given.LEAST, Given.GREATEST}) {
            for (int what = -1; what <= 6; what++) {
                check.due("deed(" + d + ", " + what + ")", Given.UNKNOWN, x.deed(d, what));
            }
        }
    }

    /** "OUTSIDE". */
    static void nothingElseCanBeAsked(Check check) {
        SignRow x = Given.text("abc");
        for (int what : new int[] {-1, 6, Given.LEAST, Given.GREATEST}) {
            check.due("of the first, what " + what, Given.OUTSIDE, x.deed(0, what));
            check.due("of the last, what " + what, Given.OUTSIDE, x.deed(2, what));
        }
    }

    /** "0 .. 399". */
    static void theLastOfFourHundred(Check check) {
        SignRow x = Given.deeds(399);
        check.due("399 is none yet", Given.UNKNOWN, x.deed(399, 0));
        x.mark(0, 0, 398, 7, true);
        deed(check, x, 399, 0, 400, 400, 3, 15, 0);
        check.due("400", Given.UNKNOWN, x.deed(400, 0));
    }
}
