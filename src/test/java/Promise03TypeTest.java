/** Promise 3: type: where a sign may come, and when not. Its path: Promise03TypePathsTest. */
public final class Promise03TypeTest {
    public static void main(String[] args) {
        Check.runAll(Promise03TypeTest.class);
    }

    /** "The deed": they are numbered by all together, from 0 on. */
    static void theAnswerIsTheDeed(Check check) {
        SignRow x = new SignRow();
        check.due("the first", 0, x.type(0, 0, 97));
        check.due("another's", 1, x.type(5, 0, 97));
        check.due("an erase is numbered too", 2, x.erase(0, 0));
        check.due("behind that", 3, x.type(0, 0, 97));
    }

    /** "(0 .. its length: before the sign that is there)". */
    static void itComesBeforeTheSignThatIsThere(Check check) {
        SignRow x = new SignRow();
        check.due("into an empty text", 0, x.type(0, 0, 'b'));
        check.due("at the length: behind all", 1, x.type(0, 1, 'd'));
        check.due("at 0: before all", 2, x.type(0, 0, 'a'));
        check.due("between", 3, x.type(0, 2, 'c'));
        check.text("the order", x, 0, "abcd");
    }

    /** "OUTSIDE (place ..)". */
    static void placesOutside(Check check) {
        check.changesNothing("refused calls", () -> Given.text("abc"), x -> {
            for (int place : new int[] {-1, 4, Given.LEAST, Given.GREATEST}) {
                check.due("place " + place, Given.OUTSIDE, x.type(0, place, 65));
            }
            check.due("an empty text has only 0", Given.OUTSIDE, x.type(1, 1, 65));
        });
    }

    /** "A place of the TEXT": erased signs, and those of others, have none. */
    static void placesAreOfTheTextThatLivesHere(Check check) {
        SignRow x = Given.text("abc");
        x.erase(0, 2);
        check.due("the length is 2 now", Given.OUTSIDE, x.type(0, 3, 65));
        check.due("behind the last that lives", 4, x.type(0, 2, 'x'));
        check.text("there", x, 0, "abx");
        x.deliver(0);
        check.due("1 has the first alone", Given.OUTSIDE, x.type(1, 2, 65));
        check.due("behind it", 5, x.type(1, 1, 'y'));
        check.text("there", x, 1, "ay");
    }

    /** "A byte 32 .. 126"; "OUTSIDE (.. sign)". */
    static void theLeastAndTheGreatestSign(Check check) {
        SignRow x = new SignRow();
        check.due("32", 0, x.type(0, 0, 32));
        check.due("126", 1, x.type(0, 1, 126));
        check.text("both came", x, 0, " ~");
        check.changesNothing("refused calls", () -> Given.text("abc"), y -> {
            for (int sign : new int[] {31, 127, 0, -1, 32 + 256, Given.LEAST, Given.GREATEST}) {
                check.due("sign " + sign, Given.OUTSIDE, y.type(0, 0, sign));
            }
        });
    }

    /** "UNKNOWN (replica)", which is named before OUTSIDE and ROOM. */
    static void noSuchReplica(Check check) {
        check.changesNothing("refused calls", () -> Given.text("abc"), x -> {
            for (int r : Given.NO_REPLICAS) {
                check.due("replica " + r, Given.UNKNOWN, x.type(r, 0, 65));
                check.due("with a wrong place and sign", Given.UNKNOWN, x.type(r, 99, 0));
            }
        });
        check.due("without room", Given.UNKNOWN, Given.deeds(400).type(6, 0, 65));
    }

    /** "DEEDS are numbered .. 0 .. 399 (ROOM behind that)"; "ROOM (400 deeds ..)". */
    static void fourHundredDeeds(Check check) {
        SignRow x = Given.deeds(399);
        check.due("the last one", 399, x.type(3, 0, 65));
        check.due("one more", Given.ROOM, x.type(3, 0, 65));
        check.due("by another", Given.ROOM, x.type(4, 0, 65));
        check.due("at another place", Given.ROOM, x.type(3, 1, 65));
        check.due("400", 400, x.count(0));
        check.text("one came", x, 3, "A");
    }

    /** "ROOM (400 deeds ..; no coin is thrown then)". */
    static void fourHundredDeedsAndNoCoin(Check check) {
        SignRow x = Given.deeds(400);
        x.stream(2, 77);
        check.due("no room", Given.ROOM, x.type(2, 0, 65));
        check.due("no coin", 77, x.stream(2, 77));
        check.changesNothing("refused calls", () -> Given.deeds(400), y -> {
            y.type(0, 0, 65);
            y.type(0, 400, 65);
            y.type(5, 0, 65);
        });
    }

    /** OUTSIDE is named before ROOM. */
    static void outsideWithoutRoom(Check check) {
        SignRow x = Given.deeds(400);
        check.due("place", Given.OUTSIDE, x.type(0, 401, 65));
        check.due("place", Given.OUTSIDE, x.type(0, -1, 65));
        check.due("sign", Given.OUTSIDE, x.type(0, 0, 127));
        SignRow deep = Given.deep(0, 12);
        check.due("sign where a 13th level would be", Given.OUTSIDE, deep.type(0, 6, 31));
    }

    /** "A replica does its own deed at once, and sends it to all others by numbers". */
    static void itIsDoneAtOnceAndSentByNumbers(Check check) {
        SignRow x = new SignRow();
        x.type(2, 0, 97);
        check.text("at once", x, 2, "a");
        check.due("five messages", 5, x.count(1));
        int[] others = {0, 1, 3, 4, 5};
        for (int i = 0; i < 5; i++) {
            check.message("sent", x, i, 0, others[i]);
            check.due("not there yet", 0, x.length(others[i]));
        }
        x.type(0, 0, 97);
        check.message("behind all that is on the way", x, 5, 1, 1);
        x.type(5, 0, 97);
        check.message("the last replica's, the last message", x, 14, 2, 4);
    }

    /** "300 at most: more are lost". */
    static void messagesBehindThe300thAreLost(Check check) {
        SignRow x = Given.messages(295);
        x.lose(0);
        x.lose(0);
        x.repeat(0);
        x.repeat(0);
        x.repeat(0);
        check.due("296", 296, x.count(1));
        check.due("type", 59, x.type(3, 0, 65));
        check.due("300", 300, x.count(1));
        check.message("the first four are on the way", x, 296, 59, 0);
        check.message("the first four are on the way", x, 299, 59, 4);
        check.due("one is lost", 1, x.count(2));
        check.due("the deed is done all the same", 1, x.length(3));
        check.due("type", 60, x.type(3, 0, 65));
        check.due("five more are lost", 6, x.count(2));
        check.message("the last stays", x, 299, 59, 4);
    }
}
