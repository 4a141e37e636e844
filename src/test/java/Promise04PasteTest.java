/** Promise 4: paste: n signs (1 .. 20) come one behind the other at a place: how many came. */
public final class Promise04PasteTest {
    public static void main(String[] args) {
        Check.runAll(Promise04PasteTest.class);
    }

    /** "n signs (1 .. 20)". */
    static void oneAndTwenty(Check check) {
        SignRow x = new SignRow();
        check.due("one", 1, x.paste(0, 0, 1, 'a'));
        check.text("one", x, 0, "a");
        check.due("twenty", 20, x.paste(0, 1, 20, 'b'));
        check.text("and twenty", x, 0, "abcdefghijklmnopqrstu");
    }

    /** "OUTSIDE (.. n ..)". */
    static void tooFewAndTooMany(Check check) {
        check.changesNothing("refused calls", () -> Given.text("abc"), x -> {
            for (int n : new int[] {0, 21, -1, 400, Given.LEAST, Given.GREATEST}) {
                check.due("n " + n, Given.OUTSIDE, x.paste(0, 0, n, 65));
            }
        });
    }

    /** "One behind the other at a place". */
    static void atTheBeginningBetweenAndAtTheEnd(Check check) {
        SignRow x = Given.text("mn");
        check.due("at 0", 3, x.paste(0, 0, 3, 'a'));
        check.due("between", 2, x.paste(0, 4, 2, 'A'));
        check.due("at the length", 2, x.paste(0, 7, 2, 'x'));
        check.text("in order", x, 0, "abcmABnxy");
    }

    /** "OUTSIDE (place ..)". */
    static void placesOutside(Check check) {
        check.changesNothing("refused calls", () -> Given.text("abc"), x -> {
            for (int place : new int[] {-1, 4, Given.LEAST, Given.GREATEST, Given.GREATEST - 1}) {
                check.due("place " + place, Given.OUTSIDE, x.paste(0, place, 2, 65));
            }
            check.due("an empty text has only 0", Given.OUTSIDE, x.paste(1, 1, 2, 65));
        });
    }

    /** "Each one more than the one before (126 at most, then 32 again)". */
    static void behind126Comes32(Check check) {
        SignRow x = new SignRow();
        check.due("over the end", 5, x.paste(0, 0, 5, 125));
        check.text("125, 126, 32, 33, 34", x, 0, "}~ !\"");
        check.due("from 126", 2, x.paste(1, 0, 2, 126));
        check.text("126, 32", x, 1, "~ ");
        check.due("126 alone", 1, x.paste(2, 0, 1, 126));
        check.text("126", x, 2, "~");
        check.due("up to 126", 20, x.paste(3, 0, 20, 107));
        check.due("126", 126, x.sign(3, 19));
    }

    /** "OUTSIDE (.. sign)". */
    static void signsOutside(Check check) {
        check.due("32", 1, new SignRow().paste(0, 0, 1, 32));
        check.changesNothing("refused calls", () -> Given.text("abc"), x -> {
            for (int sign : new int[] {31, 127, 0, -1, Given.LEAST, Given.GREATEST}) {
                check.due("sign " + sign, Given.OUTSIDE, x.paste(0, 0, 2, sign));
            }
        });
    }

    /** "UNKNOWN", which is named before OUTSIDE. */
    static void noSuchReplica(Check check) {
        check.changesNothing("refused calls", () -> Given.text("abc"), x -> {
            for (int r : Given.NO_REPLICAS) {
                check.due("replica " + r, Given.UNKNOWN, x.paste(r, 0, 1, 65));
                check.due("all is wrong", Given.UNKNOWN, x.paste(r, 99, 0, 0));
            }
        });
    }

    static void eachSignIsADeedWithItsMessages(Check check) {
        SignRow x = new SignRow();
        x.paste(1, 0, 3, 'a');
        check.due("deeds", 3, x.count(0));
        check.due("messages", 15, x.count(1));
        for (int d = 0; d < 3; d++) {
            check.due("its number there", d + 1, x.deed(d, 1));
            check.due("its TIME", d + 1, x.deed(d, 2));
            check.due("the sign", 'a' + d, x.deed(d, 4));
            check.message("sent", x, 5 * d, d, 0);
        }
    }

    /** Each path is new between the one that came before and the next that it has. */
    static void thePathsAreThoseOfTyping(Check check) {
        SignRow pasted = Given.digits(4, 5);
        SignRow typed = Given.digits(4, 5);
        pasted.paste(0, 1, 8, 65);
        for (int i = 0; i < 8; i++) {
            typed.type(0, 1 + i, 65 + i);
        }
        check.text("one behind the other", pasted, 0, "aABCDEFGHb");
        for (int i = 0; i < 10; i++) {
            check.due("levels", typed.path(0, i, 0, 0), pasted.path(0, i, 0, 0));
            check.due("the last digit", typed.path(0, i, typed.path(0, i, 0, 0), 1),
                    pasted.path(0, i, pasted.path(0, i, 0, 0), 1));
        }
    }

    /** The next one may be erased: it comes back behind all of them. */
    static void beforeAnErasedSign(Check check) {
        SignRow x = Given.digits(4, 5);
        x.erase(0, 1);
        x.paste(0, 1, 4, 'A');
        check.text("behind a", x, 0, "aABCD");
        for (int i = 0; i < 5; i++) {
            x.undo(0);
        }
        check.text("b was behind them", x, 0, "ab");
    }

    /** "How many came (fewer with ROOM)": 400 deeds. */
    static void fewerWithFourHundredDeeds(Check check) {
        SignRow x = Given.deeds(388);
        check.due("twelve of twenty", 12, x.paste(5, 0, 20, 'A'));
        check.text("the first twelve", x, 5, "ABCDEFGHIJKL");
        check.due("400", 400, x.count(0));
        SignRow y = Given.deeds(380);
        check.due("as many as there is room for", 20, y.paste(5, 0, 20, 'A'));
    }

    /** "Fewer": none. */
    static void noneWithFourHundredDeeds(Check check) {
        SignRow x = Given.deeds(400);
        x.stream(3, 8);
        check.due("none of one", 0, x.paste(3, 0, 1, 'A'));
        check.due("none of twenty", 0, x.paste(3, 0, 20, 'A'));
        check.due("no coin is thrown", 8, x.stream(3, 8));
        check.due("wrong all the same", Given.OUTSIDE, x.paste(3, 1, 20, 'A'));
        check.due("wrong all the same", Given.OUTSIDE, x.paste(3, 0, 21, 'A'));
        check.due("unknown all the same", Given.UNKNOWN, x.paste(6, 0, 20, 'A'));
        check.changesNothing("refused calls", () -> Given.deeds(400), y -> y.paste(0, 0, 20, 65));
    }

    /** "Fewer with ROOM": a 13th level. */
    static void fewerWithAThirteenthLevel(Check check) {
        SignRow x = Given.deep(3, 11);
        x.stream(3, Given.streamFor(0));
        check.due("one of five", 1, x.paste(3, 5, 5, 'v'));
        check.text("it came", x, 3, "BDFHJvKIGECA");
        check.due("one deed", 12, x.count(0));
        check.due("its messages", 60, x.count(1));
        SignRow y = Given.deep(3, 12);
        y.stream(3, 9);
        check.due("none of five", 0, y.paste(3, 6, 5, 'v'));
        check.due("no coin is thrown", 9, y.stream(3, 9));
        check.due("no deed", 12, y.count(0));
    }
}
