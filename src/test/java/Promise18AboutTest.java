/** Promise 18: about: deeds done and waiting, the greatest TIME and the signs of a replica. UNKNOWN, OUTSIDE. */
public final class Promise18AboutTest {
    public static void main(String[] args) {
        Check.runAll(Promise18AboutTest.class);
    }

    /** "What = 0 how many of q's deeds were done there". */
    static void howManyWereDone(Check check) {
        SignRow x = Given.text("abc");
        x.erase(0, 0);
        x.type(1, 0, 'x');
        x.sync(2, 0);
        x.sync(2, 1);
        check.due("of 0's at 2", 4, x.about(2, 0, 0));
        check.due("of 1's at 2", 1, x.about(2, 1, 0));
        check.due("of its own at 2", 0, x.about(2, 2, 0));
        check.due("of its own at 0", 4, x.about(0, 0, 0));
        check.due("of 1's at 0", 0, x.about(0, 1, 0));
        check.due("400", 400, Given.deeds(400).about(0, 0, 0));
    }

    /** "1 how many deeds wait there": and they were not done. */
    static void howManyWait(Check check) {
        SignRow x = Given.text("abcd");
        check.due("none", 0, x.about(3, 0, 1));
        x.deliver(17);
        x.deliver(12);
        check.due("two", 2, x.about(3, 0, 1));
        check.due("which were not done", 0, x.about(3, 0, 0));
        check.due("they wait there alone", 0, x.about(2, 0, 1));
        x.deliver(7);
        x.deliver(2);
        check.due("none", 0, x.about(3, 0, 1));
        check.due("all were done", 4, x.about(3, 0, 0));
    }

    /** "2 its greatest TIME": "of deeds that were done there; 0 at first". */
    static void theGreatestTime(Check check) {
        SignRow x = Given.text("abc");
        check.due("its own", 3, x.about(0, 0, 2));
        check.due("nothing was done", 0, x.about(1, 0, 2));
        x.deliver(10);
        check.due("one waits", 0, x.about(1, 0, 2));
        x.deliver(0);
        check.due("one was done", 1, x.about(1, 0, 2));
        x.type(2, 0, 'x');
        x.sync(0, 2);
        check.due("a smaller one came", 3, x.about(0, 0, 2));
        check.due("400", 400, Given.deeds(400).about(0, 0, 2));
    }

    /** "A TIME: one above the greatest TIME that the replica has". */
    static void theNextTimeIsOneAbove(Check check) {
        SignRow x = Given.text("abc");
        check.due("its first", 1, x.deed(x.type(1, 0, 'x'), 2));
        x.sync(1, 0);
        check.due("one above 3", 4, x.deed(x.type(1, 0, 'y'), 2));
        check.due("0 does not know of it", 4, x.deed(x.type(0, 0, 'z'), 2));
    }

    /** "3 how many signs it has, living or not". */
    static void signsLivingOrNot(Check check) {
        SignRow x = Given.text("abc");
        x.erase(0, 1);
        x.undo(0);
        x.erase(0, 1);
        x.mark(0, 0, 0, 0, true);
        check.due("three", 3, x.about(0, 0, 3));
        check.due("of which two live", 2, x.length(0));
        check.due("none elsewhere", 0, x.about(1, 0, 3));
        x.deliver(5);
        check.due("one that waits is not there", 0, x.about(1, 0, 3));
        x.deliver(0);
        check.due("both are there", 2, x.about(1, 0, 3));
        check.due("400", 400, Given.deeds(400).about(0, 0, 3));
    }

    /** "UNKNOWN (r ..)", for every what. */
    static void noSuchReplica(Check check) {
        SignRow x = Given.textOfAll("ab");
        check.due("the last one", 2, x.about(5, 0, 3));
        for (int r : Given.NO_REPLICAS) {
            for (int what = -1; what <= 4; what++) {
                check.due("about(" + r + ", 0, " + what + ")", Given.UNKNOWN, x.about(r, 0, what));
            }
        }
    }

    /** "UNKNOWN (.. q for 0)"; "(q is asked for 0 alone)". */
    static void qIsAskedForZeroAlone(Check check) {
        SignRow x = Given.textOfAll("ab");
        for (int q : Given.NO_REPLICAS) {
            check.due("0", Given.UNKNOWN, x.about(1, q, 0));
            check.due("1", 0, x.about(1, q, 1));
            check.due("2", 2, x.about(1, q, 2));
            check.due("3", 2, x.about(1, q, 3));
            check.due("4", Given.OUTSIDE, x.about(1, q, 4));
        }
        check.due("the last one", 0, x.about(1, 5, 0));
    }

    /** "OUTSIDE". */
    static void nothingElseCanBeAsked(Check check) {
        SignRow x = Given.text("ab");
        for (int what : new int[] {-1, 4, Given.LEAST, Given.GREATEST}) {
            check.due("what " + what, Given.OUTSIDE, x.about(0, 0, what));
        }
    }
}
