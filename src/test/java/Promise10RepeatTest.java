/** Promise 10: repeat: it is on the way once more, behind all: how many there are. UNKNOWN, ROOM. */
public final class Promise10RepeatTest {
    public static void main(String[] args) {
        Check.runAll(Promise10RepeatTest.class);
    }

    /** "Once more, behind all". */
    static void onceMoreBehindAll(Check check) {
        SignRow x = Given.text("ab");
        check.due("the third", 11, x.repeat(2));
        check.message("it stays where it was", x, 2, 0, 3);
        check.message("and is behind all", x, 10, 0, 3);
        check.due("the one that was repeated", 12, x.repeat(10));
        check.message("once more", x, 11, 0, 3);
        check.due("the first", 13, x.repeat(0));
        check.message("behind all", x, 12, 0, 1);
        x.type(1, 0, 'c');
        check.message("what is sent goes behind that", x, 13, 2, 0);
    }

    static void theOnlyOne(Check check) {
        SignRow x = Given.text("a");
        for (int i = 0; i < 4; i++) {
            x.lose(0);
        }
        check.due("two", 2, x.repeat(0));
        check.message("the same", x, 1, 0, 5);
    }

    /** "300 at most"; "ROOM". */
    static void threeHundred(Check check) {
        SignRow x = Given.messages(295);
        for (int have = 296; have <= 300; have++) {
            check.due("repeat", have, x.repeat(7));
        }
        check.due("one more", Given.ROOM, x.repeat(7));
        check.due("the last too", Given.ROOM, x.repeat(299));
        check.due("300", 300, x.count(1));
        check.message("the last stays", x, 299, 1, 3);
    }

    /** A refused one changes nothing: nor is it lost for want of room, as it never was sent. */
    static void aRefusedOneChangesNothing(Check check) {
        SignRow x = Given.messages(300);
        check.due("refused", Given.ROOM, x.repeat(0));
        check.due("lost", 0, x.count(2));
        check.changesNothing("refused calls", () -> Given.messages(300), y -> {
            y.repeat(0);
            y.repeat(299);
        });
    }

    static void whatComesOrIsLostMakesRoom(Check check) {
        SignRow x = Given.messages(300);
        check.due("deliver", 1, x.deliver(0));
        check.due("room for one", 300, x.repeat(298));
        check.message("behind all", x, 299, 59, 5);
        check.due("full", Given.ROOM, x.repeat(298));
        check.due("lose", 299, x.lose(4));
        check.due("room for one", 300, x.repeat(0));
    }

    /** "UNKNOWN", which is named before ROOM. */
    static void noSuchMessage(Check check) {
        check.changesNothing("refused calls", () -> Given.text("a"), x -> {
            for (int i : new int[] {-1, 5, 299, 300, Given.LEAST, Given.GREATEST}) {
                check.due("repeat(" + i + ")", Given.UNKNOWN, x.repeat(i));
            }
        });
        check.due("nothing is on the way", Given.UNKNOWN, new SignRow().repeat(0));
        SignRow full = Given.messages(300);
        check.due("without room: 300", Given.UNKNOWN, full.repeat(300));
        check.due("without room: -1", Given.UNKNOWN, full.repeat(-1));
    }
}
