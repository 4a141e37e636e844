/** Promise 22: count: what = 0 deeds, 1 messages on the way, 2 messages lost for want of room. OUTSIDE. */
public final class Promise22CountTest {
    public static void main(String[] args) {
        Check.runAll(Promise22CountTest.class);
    }

    private static void counts(Check check, String when, SignRow x, int deeds, int messages, int lost) {
        check.due(when + ": deeds", deeds, x.count(0));
        check.due(when + ": messages on the way", messages, x.count(1));
        check.due(when + ": messages lost", lost, x.count(2));
    }

    static void deedsAndMessages(Check check) {
        SignRow x = new SignRow();
        counts(check, "at first", x, 0, 0, 0);
        x.type(0, 0, 'a');
        counts(check, "a type", x, 1, 5, 0);
        x.paste(1, 0, 3, 'a');
        counts(check, "a paste of three", x, 4, 20, 0);
        x.erase(0, 0);
        x.undo(0);
        x.mark(0, 0, 0, 0, true);
        counts(check, "erase, undo, mark", x, 7, 35, 0);
        x.deliver(0);
        x.lose(0);
        counts(check, "deliver, lose", x, 7, 33, 0);
        x.repeat(0);
        counts(check, "repeat", x, 7, 34, 0);
        x.sync(2, 0);
        x.cursor(2, 0, 1);
        counts(check, "sync, cursor", x, 7, 34, 0);
    }

    /** "OUTSIDE". */
    static void nothingElseIsCounted(Check check) {
        SignRow x = Given.text("ab");
        for (int what : new int[] {-1, 3, Given.LEAST, Given.GREATEST}) {
            check.due("count(" + what + ")", Given.OUTSIDE, x.count(what));
        }
    }

    /** "300 at most: more are lost". */
    static void lostForWantOfRoom(Check check) {
        SignRow x = Given.messages(300);
        counts(check, "full", x, 60, 300, 0);
        x.type(0, 0, 'x');
        counts(check, "a type", x, 61, 300, 5);
        x.erase(0, 0);
        counts(check, "an erase", x, 62, 300, 10);
        x.undo(0);
        counts(check, "an undo", x, 63, 300, 15);
        x.mark(0, 0, 0, 0, true);
        counts(check, "a mark", x, 64, 300, 20);
        x.paste(0, 0, 20, 'a');
        counts(check, "a paste of twenty", x, 84, 300, 120);
    }

    /** Some of a deed's messages are sent, the rest is lost. */
    static void someAreLost(Check check) {
        for (int free = 1; free <= 5; free++) {
            SignRow x = Given.messages(300);
            for (int i = 0; i < free; i++) {
                x.lose(0);
            }
            x.type(1, 0, 'x');
            counts(check, free + " are free", x, 61, 300, 5 - free);
            check.message("the last", x, 299, 60, free == 1 ? 0 : free);
        }
    }

    /** Neither what lose loses nor what repeat refuses is lost for want of room. */
    static void notLostForWantOfRoom(Check check) {
        SignRow x = Given.messages(300);
        x.repeat(0);
        counts(check, "repeat", x, 60, 300, 0);
        x.lose(0);
        counts(check, "lose", x, 60, 299, 0);
        x.deliver(0);
        counts(check, "deliver", x, 60, 298, 0);
    }

    /** "0 .. 399 (ROOM behind that)". */
    static void fourHundredDeeds(Check check) {
        SignRow x = Given.deeds(400);
        counts(check, "full", x, 400, 300, 1700);
        x.type(0, 0, 'x');
        x.erase(0, 0);
        x.undo(0);
        x.mark(0, 0, 0, 0, true);
        x.paste(0, 0, 20, 'x');
        counts(check, "refused calls", x, 400, 300, 1700);
    }

    static void refusedCallsAreNotCounted(Check check) {
        SignRow x = Given.text("ab");
        x.type(0, 3, 'x');
        x.paste(0, 0, 21, 'x');
        x.erase(0, 2);
        x.undo(1);
        x.mark(0, 1, 0, 0, true);
        x.deliver(10);
        x.lose(10);
        x.repeat(10);
        counts(check, "refused calls", x, 2, 10, 0);
    }
}
