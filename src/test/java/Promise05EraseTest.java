/** Promise 5: erase: the sign at a place is erased: the deed. */
public final class Promise05EraseTest {
    public static void main(String[] args) {
        Check.runAll(Promise05EraseTest.class);
    }

    static void theFirstOneBetweenAndTheLast(Check check) {
        SignRow x = Given.text("abcde");
        check.due("the first", 5, x.erase(0, 0));
        check.text("without a", x, 0, "bcde");
        check.due("the last", 6, x.erase(0, 3));
        check.text("without e", x, 0, "bcd");
        check.due("one between", 7, x.erase(0, 1));
        check.text("without c", x, 0, "bd");
        check.due("it names c", 2, x.deed(7, 5));
    }

    static void untilTheTextIsEmpty(Check check) {
        SignRow x = Given.text("ab");
        check.due("a", 2, x.erase(0, 0));
        check.due("then b is there", 3, x.erase(0, 0));
        check.due("then nothing", Given.OUTSIDE, x.erase(0, 0));
        check.due("erased signs are there, not living", 2, x.about(0, 0, 3));
    }

    /** "OUTSIDE (place)". */
    static void placesOutside(Check check) {
        check.changesNothing("refused calls", () -> Given.text("abc"), x -> {
            for (int place : new int[] {-1, 3, Given.LEAST, Given.GREATEST}) {
                check.due("place " + place, Given.OUTSIDE, x.erase(0, place));
            }
            check.due("an empty text", Given.OUTSIDE, x.erase(1, 0));
        });
    }

    /** "UNKNOWN (replica)", which is named before OUTSIDE and ROOM. */
    static void noSuchReplica(Check check) {
        check.changesNothing("refused calls", () -> Given.text("abc"), x -> {
            for (int r : Given.NO_REPLICAS) {
                check.due("replica " + r, Given.UNKNOWN, x.erase(r, 0));
                check.due("with a wrong place", Given.UNKNOWN, x.erase(r, -1));
            }
        });
        check.due("without room", Given.UNKNOWN, Given.deeds(400).erase(-1, 0));
    }

    /** "ROOM". */
    static void fourHundredDeeds(Check check) {
        SignRow x = Given.deeds(399);
        check.due("the last one", 399, x.erase(0, 0));
        check.due("one more", Given.ROOM, x.erase(0, 0));
        check.due("the sign stays", 398, x.length(0));
        check.changesNothing("refused calls", () -> Given.deeds(400), y -> y.erase(0, 399));
    }

    /** OUTSIDE is named before ROOM. */
    static void outsideWithoutRoom(Check check) {
        SignRow x = Given.deeds(400);
        check.due("behind the last", Given.OUTSIDE, x.erase(0, 400));
        check.due("an empty text", Given.OUTSIDE, x.erase(1, 0));
    }

    static void itIsSentToAllOthers(Check check) {
        SignRow x = Given.text("a");
        x.erase(0, 0);
        for (int i = 0; i < 5; i++) {
            check.message("sent", x, 5 + i, 1, 1 + i);
        }
    }

    static void anothersSign(Check check) {
        SignRow x = Given.textOfAll("ab");
        check.due("erased by 5", 2, x.erase(5, 1));
        check.text("there", x, 5, "a");
        check.text("not yet here", x, 0, "ab");
        x.sync(0, 5);
        check.text("now here", x, 0, "a");
    }

    /** "It LIVES, if the latest of the ERASES, RAISES of it that were done here is no ERASE". */
    static void anErasePastARaiseThatIsLater(Check check) {
        SignRow x = Given.textOfAll("a");
        x.erase(0, 0);
        x.undo(0);
        check.due("its TIME is 2, the raise's 3", 2, x.deed(x.erase(1, 0), 2));
        x.sync(0, 1);
        check.text("it came later, but is not later", x, 0, "a");
        x.sync(1, 0);
        check.text("there too", x, 1, "a");
    }

    /** "LATER is .., of like ones that of the greater replica". */
    static void anEraseOfTheTimeOfARaise(Check check) {
        SignRow x = Given.textOfAll("a");
        x.erase(2, 0);
        x.undo(2);
        for (int r : new int[] {1, 3}) {
            x.type(r, 0, 'b');
            check.due("its TIME is that of the raise", 3, x.deed(x.erase(r, 1), 2));
        }
        x.sync(2, 1);
        check.text("1's is not later", x, 2, "ba");
        x.sync(2, 3);
        check.text("3's is", x, 2, "bb");
        x.sync(1, 2);
        x.sync(3, 2);
        check.due("so it is for all who know all", 1, x.same(1, 2));
        check.due("so it is for all who know all", 1, x.same(3, 2));
    }

    /** "Or there is none": erased twice at once, it is erased. */
    static void erasedByTwoAtOnce(Check check) {
        SignRow x = Given.textOfAll("ab");
        x.erase(1, 0);
        x.erase(2, 0);
        x.sync(1, 2);
        x.sync(2, 1);
        check.text("once", x, 1, "b");
        check.text("once", x, 2, "b");
    }
}
