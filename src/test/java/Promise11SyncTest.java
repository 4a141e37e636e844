/** Promise 11: sync: all deeds that q has done, and r has not, come to r: how many were done there by that. */
public final class Promise11SyncTest {
    public static void main(String[] args) {
        Check.runAll(Promise11SyncTest.class);
    }

    static void allThatItHasNot(Check check) {
        SignRow x = Given.text("abc");
        x.type(1, 0, 'x');
        check.due("0's", 3, x.sync(2, 0));
        check.due("1's", 1, x.sync(2, 1));
        check.due("both's, by 2", 4, x.sync(3, 2));
        check.due("same", 1, x.same(2, 3));
        x.erase(3, 0);
        check.due("the one that is new", 1, x.sync(2, 3));
    }

    static void nothingIsNew(Check check) {
        check.changesNothing("a second time", () -> Given.textOfAll("abc"), x -> {
            check.due("again", 0, x.sync(1, 0));
            check.due("the other way", 0, x.sync(0, 1));
            check.due("between others", 0, x.sync(4, 5));
        });
        check.due("of a new object", 0, new SignRow().sync(0, 1));
    }

    static void withItself(Check check) {
        check.changesNothing("with itself", () -> Given.text("abc"), x -> {
            check.due("with deeds", 0, x.sync(0, 0));
            check.due("without", 0, x.sync(5, 5));
        });
    }

    /** "Come to r": not to q, nor to any other. */
    static void oneWayOnly(Check check) {
        SignRow x = Given.text("abc");
        x.type(1, 0, 'x');
        check.due("to 1", 3, x.sync(1, 0));
        check.due("0 has not 1's", 0, x.about(0, 1, 0));
        check.text("0", x, 0, "abc");
        check.text("2", x, 2, "");
    }

    /** "That q has done": what only waits at q does not come. */
    static void whatWaitsIsNotTold(Check check) {
        SignRow x = Given.text("abc");
        check.due("the second waits at 1", 2, Given.bring(x, 1, 1));
        check.due("none was done there", 0, x.sync(2, 1));
        check.due("nor waits it here", 0, x.about(2, 0, 1));
    }

    /** "How many were done there by that": what waited at r too. */
    static void whatWaitedIsDoneByThat(Check check) {
        SignRow x = Given.text("abc");
        check.due("the third waits", 2, Given.bring(x, 2, 1));
        check.due("three were done", 3, x.sync(1, 0));
        check.due("none waits", 0, x.about(1, 0, 1));
        check.due("once each", 3, x.about(1, 0, 0));
    }

    /** The same: q has not done what waited at r. */
    static void whatWaitedForQsDeeds(Check check) {
        SignRow x = Given.text("a");
        x.sync(1, 0);
        x.erase(1, 0);
        check.due("1's ERASE waits at 2", 2, Given.bring(x, 1, 2));
        check.due("0's TYPE, and by that the ERASE", 2, x.sync(2, 0));
        check.text("erased", x, 2, "");
        check.due("none waits", 0, x.about(2, 0, 1));
    }

    static void whatStillCannotBeWaitsOn(Check check) {
        SignRow x = Given.text("abcd");
        x.sync(1, 0);
        x.type(0, 4, 'e');
        x.type(0, 5, 'f');
        check.due("the sixth waits", 2, Given.bring(x, 5, 2));
        check.due("four of 1's", 4, x.sync(2, 1));
        check.due("it waits still", 1, x.about(2, 0, 1));
        check.text("four", x, 2, "abcd");
    }

    /** No message is needed, sent or taken. */
    static void messagesStay(Check check) {
        SignRow x = Given.text("ab");
        x.sync(1, 0);
        check.due("all are on the way", 10, x.count(1));
        check.due("one that comes is nothing then", 0, x.deliver(0));
        SignRow y = Given.messages(300);
        y.type(3, 0, 'x');
        check.due("lost for want of room", 5, y.count(2));
        check.due("but learnt", 1, y.sync(4, 3));
    }

    static void fourHundredAtOnce(Check check) {
        SignRow x = Given.deeds(400);
        check.due("400", 400, x.sync(5, 0));
        check.due("signs", 400, x.length(5));
        check.due("TIME", 400, x.about(5, 0, 2));
        check.due("same", 1, x.same(0, 5));
    }

    /** TIMES are learnt by that: the next is above the greatest. */
    static void timesAreLearnt(Check check) {
        SignRow x = Given.text("abcdefg");
        x.type(1, 0, 'x');
        x.sync(1, 0);
        check.due("7, not 8", 7, x.about(1, 0, 2));
        check.due("one above", 8, x.deed(x.type(1, 0, 'y'), 2));
    }

    /** "UNKNOWN (either)". */
    static void noSuchReplica(Check check) {
        check.changesNothing("refused calls", () -> Given.text("abc"), x -> {
            for (int r : Given.NO_REPLICAS) {
                check.due("r", Given.UNKNOWN, x.sync(r, 0));
                check.due("q", Given.UNKNOWN, x.sync(1, r));
                check.due("both", Given.UNKNOWN, x.sync(r, r));
            }
        });
    }
}
