/** Promises 8 to 11, 21 and 22: deliver, lose, repeat, sync, message and count. */
public final class MessagesTest {
    private static final int UNKNOWN = -101, OUTSIDE = -102, ROOM = -104;
    private static final Check check = new Check();

    public static void main(String[] args) {
        sentByNumbers();
        delivered();
        waitsForTheOneBefore();
        waitsForSigns();
        waitsForBothSigns();
        timesAreLearnt();
        lost();
        repeated();
        threeHundred();
        synced();
        syncedWithWhatWaits();
        counted();
        wrongMessages();
        check.end();
    }

    private static void message(SignRow x, int i, int deed, int to) {
        check.due("message(" + i + ", 0)", deed, x.message(i, 0));
        check.due("message(" + i + ", 1)", to, x.message(i, 1));
    }

    /** Delivers the first message on the way with that deed to that replica. */
    private static int bring(SignRow x, int deed, int to) {
        for (int i = 0; i < x.count(1); i++) {
            if (x.message(i, 0) == deed && x.message(i, 1) == to) {
                return x.deliver(i);
            }
        }
        return -1;
    }

    private static void sentByNumbers() {
        SignRow x = new SignRow();
        x.type(2, 0, 97);
        x.erase(2, 0);
        int[] others = {0, 1, 3, 4, 5};
        for (int i = 0; i < 10; i++) {
            message(x, i, i / 5, others[i % 5]);
        }
        check.due("ten", 10, x.count(1));
        check.due("message(10)", UNKNOWN, x.message(10, 0));
    }

    private static void delivered() {
        SignRow x = new SignRow();
        x.type(0, 0, 97);
        x.repeat(1);
        check.due("to 2", 1, x.deliver(1));
        check.due("it is off the way", 5, x.count(1));
        message(x, 0, 0, 1);
        message(x, 1, 0, 3);
        check.text("at 2", x, 2, "a");
        check.text("not at 1", x, 1, "");
        check.due("to 2 again", 0, x.deliver(4));
        check.due("off the way too", 4, x.count(1));
        check.text("once", x, 2, "a");
        check.due("done once", 1, x.about(2, 0, 0));
        check.path("the path comes with it", x, 2, 0, x.path(0, 0, 1, 1), 0, 1);
        check.due("one that has it is not told", 0, x.about(1, 0, 0));
    }

    private static void waitsForTheOneBefore() {
        SignRow x = new SignRow();
        x.paste(0, 0, 4, 97);
        check.due("the fourth", 2, bring(x, 3, 5));
        check.due("the second", 2, bring(x, 1, 5));
        x.repeat(0);
        check.due("two wait", 2, x.about(5, 0, 1));
        check.due("no time yet", 0, x.about(5, 0, 2));
        check.due("no sign yet", 0, x.about(5, 0, 3));
        check.text("nothing yet", x, 5, "");
        check.due("the first", 1, bring(x, 0, 5));
        check.text("and the second", x, 5, "ab");
        check.due("one waits", 1, x.about(5, 0, 1));
        check.due("two done", 2, x.about(5, 0, 0));
        check.due("the third", 1, bring(x, 2, 5));
        check.text("and the fourth", x, 5, "abcd");
        check.due("none waits", 0, x.about(5, 0, 1));
        check.due("same", 1, x.same(0, 5));

        SignRow y = new SignRow();
        y.paste(0, 0, 2, 97);
        y.repeat(5);
        check.due("the second waits", 2, y.deliver(5));
        check.due("once", 0, y.deliver(9));
        check.due("one", 1, y.about(1, 0, 1));
        check.due("the first", 1, y.deliver(0));
        check.due("none waits", 0, y.about(1, 0, 1));
    }

    private static void waitsForSigns() {
        SignRow x = new SignRow();
        x.type(0, 0, 97);
        x.sync(1, 0);
        x.erase(1, 0);
        x.undo(1);
        x.type(1, 0, 98);
        check.due("a sign that 2 has not", 2, bring(x, 1, 2));
        check.due("behind that", 2, bring(x, 2, 2));
        check.due("and behind that", 2, bring(x, 3, 2));
        check.due("three wait", 3, x.about(2, 1, 1));
        check.due("the sign", 1, bring(x, 0, 2));
        check.due("none waits", 0, x.about(2, 1, 1));
        check.due("all of 1", 3, x.about(2, 1, 0));
        check.due("same", 1, x.same(1, 2));
        check.text("raised", x, 2, "ba");
    }

    private static void waitsForBothSigns() {
        SignRow x = new SignRow();
        x.stream(0, Check.streamFor(0));
        x.type(0, 0, 97);
        x.stream(1, Check.streamFor(5));
        x.type(1, 0, 98);
        x.sync(2, 0);
        x.sync(2, 1);
        check.due("mark", 2, x.mark(2, 0, 1, 4, true));
        check.due("without both", 2, bring(x, 2, 3));
        check.due("the last one", 1, bring(x, 1, 3));
        check.due("not without the first", 1, x.about(3, 0, 1));
        check.due("no kind yet", 0, x.kinds(3, 0));
        check.due("the first one", 1, bring(x, 0, 3));
        check.due("the mark is done", 0, x.about(3, 0, 1));
        check.due("kinds of a", 16, x.kinds(3, 0));
        check.due("kinds of b", 16, x.kinds(3, 1));
        check.due("without both", 2, bring(x, 2, 4));
        check.due("the first one", 1, bring(x, 0, 4));
        check.due("not without the last", 1, x.about(4, 0, 1));
        check.due("the last one", 1, bring(x, 1, 4));
        check.due("the mark is done", 0, x.about(4, 0, 1));
    }

    private static void timesAreLearnt() {
        SignRow x = new SignRow();
        x.paste(0, 0, 7, 97);
        x.type(1, 0, 65);
        check.due("1's first time", 1, x.deed(7, 2));
        x.sync(1, 0);
        check.due("1's greatest", 7, x.about(1, 0, 2));
        x.type(1, 0, 66);
        check.due("one above", 8, x.deed(8, 2));
        bring(x, 7, 0);
        check.due("a smaller one is not the greatest", 7, x.about(0, 0, 2));
        x.type(0, 0, 67);
        check.due("one above 0's own", 8, x.deed(9, 2));
    }

    private static void lost() {
        SignRow x = new SignRow();
        x.type(0, 0, 97);
        check.due("lose", 4, x.lose(1));
        message(x, 0, 0, 1);
        message(x, 1, 0, 3);
        check.due("lose the last", 3, x.lose(3));
        message(x, 2, 0, 4);
        check.due("lose the first", 2, x.lose(0));
        message(x, 0, 0, 3);
        check.due("no such one", UNKNOWN, x.lose(2));
        check.due("lost by the call, not for want of room", 0, x.count(2));
        check.due("lose", 1, x.lose(0));
        check.due("lose", 0, x.lose(0));
        check.due("none is left", UNKNOWN, x.lose(0));
        check.due("nobody heard", 0, x.length(1) + x.length(2) + x.length(3) + x.length(4) + x.length(5));
    }

    private static void repeated() {
        SignRow x = new SignRow();
        x.type(0, 0, 97);
        check.due("repeat", 6, x.repeat(2));
        message(x, 2, 0, 3);
        message(x, 5, 0, 3);
        check.due("repeat what was repeated", 7, x.repeat(5));
        message(x, 6, 0, 3);
        x.type(1, 0, 98);
        message(x, 7, 1, 0);
        check.due("no such one", UNKNOWN, x.repeat(12));
    }

    private static void threeHundred() {
        SignRow x = new SignRow();
        for (int i = 0; i < 3; i++) {
            check.due("paste", 20, x.paste(i, 0, 20, 60));
        }
        check.due("300 on the way", 300, x.count(1));
        check.due("none is lost", 0, x.count(2));
        check.due("repeat", ROOM, x.repeat(0));
        check.due("one too far", UNKNOWN, x.repeat(300));
        check.due("a refused one is not lost", 0, x.count(2));
        message(x, 299, 59, 5);
        x.lose(10);
        x.lose(10);
        check.due("one more deed", 60, x.type(4, 0, 65));
        message(x, 298, 60, 0);
        message(x, 299, 60, 1);
        check.due("full again", 300, x.count(1));
        check.due("three are lost", 3, x.count(2));
        check.due("one more deed", 61, x.erase(4, 0));
        check.due("five more are lost", 8, x.count(2));
        check.due("deliver makes room", 1, x.deliver(0));
        check.due("repeat", 300, x.repeat(298));
        message(x, 299, 60, 1);
        check.due("repeat", ROOM, x.repeat(298));
        check.due("still eight", 8, x.count(2));
    }

    private static void synced() {
        SignRow x = new SignRow();
        x.paste(0, 0, 3, 97);
        x.type(1, 0, 120);
        check.due("all of 0", 3, x.sync(2, 0));
        check.due("nothing new", 0, x.sync(2, 0));
        check.due("with itself", 0, x.sync(2, 2));
        check.due("1's by 1", 1, x.sync(2, 1));
        check.due("all by 2", 4, x.sync(3, 2));
        check.due("0 did not change", 3, x.length(0));
        check.due("messages stay", 20, x.count(1));
        check.due("what came is nothing now", 0, x.deliver(1));
        x.erase(3, 0);
        check.due("one more", 1, x.sync(2, 3));
        check.due("same", 1, x.same(2, 3));
        check.due("one way only", 0, x.about(0, 3, 0));
    }

    private static void syncedWithWhatWaits() {
        SignRow x = new SignRow();
        x.type(0, 0, 97);
        x.sync(1, 0);
        x.erase(1, 0);
        check.due("1's erase waits at 2", 2, bring(x, 1, 2));
        check.due("0's type, and by that the erase", 2, x.sync(2, 0));
        check.text("erased", x, 2, "");
        check.due("none waits", 0, x.about(2, 0, 1));

        SignRow y = new SignRow();
        y.paste(0, 0, 3, 97);
        check.due("the third waits", 2, bring(y, 2, 1));
        check.due("what waits is done once", 3, y.sync(1, 0));
        check.due("none waits", 0, y.about(1, 0, 1));
        check.due("what waits is not told on", 2, bring(y, 1, 2));
        check.due("for it was not done", 0, y.sync(3, 2));
    }

    private static void counted() {
        SignRow x = new SignRow();
        x.paste(0, 0, 2, 97);
        check.due("deeds", 2, x.count(0));
        check.due("messages", 10, x.count(1));
        check.due("lost", 0, x.count(2));
        check.due("count(3)", OUTSIDE, x.count(3));
        check.due("count(-1)", OUTSIDE, x.count(-1));
        check.due("count(least)", OUTSIDE, x.count(Integer.MIN_VALUE));
    }

    private static void wrongMessages() {
        SignRow x = new SignRow();
        x.type(0, 0, 97);
        for (int i : new int[] {-1, 5, 300, Integer.MIN_VALUE, Integer.MAX_VALUE}) {
            check.due("deliver", UNKNOWN, x.deliver(i));
            check.due("lose", UNKNOWN, x.lose(i));
            check.due("repeat", UNKNOWN, x.repeat(i));
            check.due("message", UNKNOWN, x.message(i, 0));
            check.due("message", UNKNOWN, x.message(i, 9));
        }
        check.due("message what 2", OUTSIDE, x.message(0, 2));
        check.due("message what -1", OUTSIDE, x.message(4, -1));
        for (int r : new int[] {-1, 6, Integer.MAX_VALUE}) {
            check.due("sync", UNKNOWN, x.sync(r, 0));
            check.due("sync", UNKNOWN, x.sync(0, r));
            check.due("sync", UNKNOWN, x.sync(r, r));
        }
        check.due("five still", 5, x.count(1));
    }
}
