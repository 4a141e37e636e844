/** Promise 8: deliver: message i on the way comes: 1 it is done, 2 it waits, 0 it is nothing. UNKNOWN. */
public final class Promise08DeliverTest {
    public static void main(String[] args) {
        Check.runAll(Promise08DeliverTest.class);
    }

    /** "1 it is done". */
    static void itIsDone(Check check) {
        SignRow x = Given.digits(5);
        check.due("to 2", 1, x.deliver(1));
        check.text("at 2", x, 2, "a");
        check.path("with its path", x, 2, 0, 5, 0, 1);
        check.due("at no other", 0, x.length(1) + x.length(3) + x.length(4) + x.length(5));
        check.due("of 0's done there", 1, x.about(2, 0, 0));
        check.due("the TIME is learnt", 1, x.about(2, 0, 2));
    }

    /** "2 it waits": for "the deed before it (n - 1) of its replica". */
    static void itWaitsForTheOneBefore(Check check) {
        SignRow x = Given.text("abcd");
        check.due("the fourth", 2, Given.bring(x, 3, 5));
        check.due("the second", 2, Given.bring(x, 1, 5));
        check.due("two wait", 2, x.about(5, 0, 1));
        check.due("none is done", 0, x.about(5, 0, 0));
        check.due("no TIME", 0, x.about(5, 0, 2));
        check.due("no sign", 0, x.about(5, 0, 3));
        check.due("the first", 1, Given.bring(x, 0, 5));
        check.text("and by that the second", x, 5, "ab");
        check.due("the fourth waits still", 1, x.about(5, 0, 1));
        check.due("the third", 1, Given.bring(x, 2, 5));
        check.text("and by that the fourth", x, 5, "abcd");
        check.due("none waits", 0, x.about(5, 0, 1));
    }

    /** The first of a replica has none before it, whatever the others did. */
    static void theFirstOfAReplicaWaitsForNone(Check check) {
        SignRow x = Given.text("abc");
        x.type(4, 0, 'z');
        check.due("4's first", 1, Given.bring(x, 3, 5));
        check.due("0's second", 2, Given.bring(x, 1, 5));
        check.text("at 5", x, 5, "z");
    }

    /** "All signs that it names are there": an ERASE, a RAISE. */
    static void itWaitsForTheSignThatItNames(Check check) {
        SignRow x = Given.text("a");
        x.sync(1, 0);
        x.erase(1, 0);
        x.undo(1);
        x.type(1, 0, 'b');
        check.due("the ERASE, which is 1's first", 2, Given.bring(x, 1, 2));
        check.due("the RAISE behind it", 2, Given.bring(x, 2, 2));
        check.due("the TYPE behind that", 2, Given.bring(x, 3, 2));
        check.due("the sign", 1, Given.bring(x, 0, 2));
        check.due("then none waits", 0, x.about(2, 1, 1));
        check.due("all of 1's were done", 3, x.about(2, 1, 0));
        check.due("same", 1, x.same(1, 2));
    }

    /** "All signs that it names": a MARK names two. */
    static void itWaitsForBothSignsOfAMark(Check check) {
        for (int first = 0; first < 2; first++) {
            SignRow x = new SignRow();
            Given.typeByStep(x, 2, 0, 0, 'a');
            Given.typeByStep(x, 5, 1, 0, 'b');
            x.sync(2, 0);
            x.sync(2, 1);
            x.mark(2, 0, 1, 4, true);
            check.due("without both", 2, Given.bring(x, 2, 3));
            check.due("one of them", 1, Given.bring(x, first, 3));
            check.due("it waits still", 1, x.about(3, 0, 1));
            check.due("no kind yet", 0, x.kinds(3, 0));
            check.due("the other", 1, Given.bring(x, 1 - first, 3));
            check.due("it was done", 0, x.about(3, 0, 1));
            check.due("the kind", 16, x.kinds(3, 0));
            check.due("the kind", 16, x.kinds(3, 1));
        }
    }

    /** What is between a MARK's signs need not be there. */
    static void itDoesNotWaitForWhatIsBetween(Check check) {
        SignRow x = Given.digits(2, 8);
        Given.typeByStep(x, 5, 1, 0, 'm');
        x.sync(0, 1);
        x.mark(0, 0, 2, 0, true);
        Given.bring(x, 0, 3);
        Given.bring(x, 1, 3);
        check.due("the mark", 1, Given.bring(x, 3, 3));
        check.due("the one between", 1, Given.bring(x, 2, 3));
        check.text("all", x, 3, "amb");
        check.due("it is marked when it comes", 1, x.kinds(3, 1));
    }

    /** A sign that it names need not live. */
    static void anErasedSignIsThere(Check check) {
        SignRow x = Given.textOfAll("a");
        x.erase(1, 0);
        x.erase(2, 0);
        check.due("1's ERASE", 1, Given.bring(x, 1, 3));
        check.due("2's ERASE of the same", 1, Given.bring(x, 2, 3));
    }

    /** "0 it is nothing": "one that was done". */
    static void whatWasDoneIsNothing(Check check) {
        SignRow x = Given.text("ab");
        x.repeat(0);
        check.due("it comes", 1, x.deliver(0));
        check.due("it comes again", 0, x.deliver(x.count(1) - 1));
        check.text("once", x, 1, "a");
        check.due("once", 1, x.about(1, 0, 0));
        check.due("nothing waits", 0, x.about(1, 0, 1));
        x.sync(2, 0);
        check.due("what was learnt otherwise", 0, Given.bring(x, 1, 2));
    }

    /** "Else it WAITS (once; one that .. waits, is nothing)". */
    static void whatWaitsIsNothing(Check check) {
        SignRow x = Given.text("ab");
        x.repeat(5);
        check.due("the second waits", 2, x.deliver(5));
        check.due("it comes again", 0, x.deliver(9));
        check.due("it waits once", 1, x.about(1, 0, 1));
        check.due("the first", 1, x.deliver(0));
        check.due("none waits", 0, x.about(1, 0, 1));
        check.due("both were done", 2, x.about(1, 0, 0));
    }

    /** Another order than that of the messages: the last comes first, and all at once at the end. */
    static void inTheOppositeOrder(Check check) {
        SignRow x = Given.text("abcdefghij");
        x.erase(0, 4);
        x.mark(0, 0, 8, 2, true);
        x.undo(0);
        for (int d = 12; d > 0; d--) {
            check.due("deed " + d, 2, x.deliver(5 * d + 3));
        }
        check.due("twelve wait", 12, x.about(4, 0, 1));
        check.due("the first", 1, x.deliver(3));
        check.due("none waits", 0, x.about(4, 0, 1));
        check.due("same", 1, x.same(0, 4));
    }

    /** Whatever it was, it is on the way no more; the others stay in their order. */
    static void itIsOnTheWayNoMore(Check check) {
        SignRow x = Given.text("ab");
        x.repeat(0);
        x.deliver(0);
        check.due("done", 10, x.count(1));
        check.message("the next one is the first now", x, 0, 0, 2);
        x.deliver(9);
        check.due("nothing", 9, x.count(1));
        check.message("the last one", x, 8, 1, 5);
        x.deliver(8);
        check.due("waits", 8, x.count(1));
        check.message("the last one", x, 7, 1, 4);
    }

    /** "UNKNOWN". */
    static void noSuchMessage(Check check) {
        check.changesNothing("refused calls", () -> Given.text("a"), x -> {
            for (int i : new int[] {-1, 5, 299, 300, Given.LEAST, Given.GREATEST}) {
                check.due("deliver(" + i + ")", Given.UNKNOWN, x.deliver(i));
            }
        });
        SignRow y = new SignRow();
        check.due("nothing is on the way", Given.UNKNOWN, y.deliver(0));
    }

    static void theLastOfThreeHundred(Check check) {
        SignRow x = Given.messages(300);
        check.due("300", Given.UNKNOWN, x.deliver(300));
        check.due("299: the sixtieth deed", 2, x.deliver(299));
        check.due("299 is no more", Given.UNKNOWN, x.deliver(299));
    }

    /** Of those that wait none can be done, where there are 400 deeds. */
    static void whatWaitsAmongFourHundredDeeds(Check check) {
        SignRow x = Given.deeds(400);
        check.due("the third", 2, x.deliver(10));
        check.due("the first", 1, x.deliver(0));
        check.due("the third waits still", 1, x.about(1, 0, 1));
    }

    static void untilNothingIsOnTheWay(Check check) {
        SignRow x = Given.text("a");
        for (int r = 1; r < 6; r++) {
            check.due("to " + r, 1, x.deliver(0));
            check.due("same", 1, x.same(0, r));
        }
        check.due("none is left", Given.UNKNOWN, x.deliver(0));
    }
}
