/** Promise 2: stream: a replica's STREAM becomes a number: what it was. UNKNOWN (replica). */
public final class Promise02StreamTest {
    public static void main(String[] args) {
        Check.runAll(Promise02StreamTest.class);
    }

    static void theAnswerIsWhatItWas(Check check) {
        SignRow x = new SignRow();
        for (int r = 0; r < 6; r++) {
            check.due("at first", r, x.stream(r, -7 * r - 1));
        }
        for (int r = 0; r < 6; r++) {
            check.due("each has its own", -7 * r - 1, x.stream(r, 3));
        }
    }

    static void itMayBecomeAnyInt(Check check) {
        SignRow x = new SignRow();
        int was = 4;
        for (int v : new int[] {0, -1, Given.LEAST, Given.GREATEST, 65536, -65536}) {
            check.due("stream(4, " + v + ")", was, x.stream(4, v));
            was = v;
        }
        check.due("the last one", was, x.stream(4, 0));
    }

    static void itMayBecomeWhatItIs(Check check) {
        SignRow x = new SignRow();
        check.due("once", 2, x.stream(2, 2));
        check.due("twice", 2, x.stream(2, 2));
    }

    /** "(A value may be the same number.)": as an answer of another meaning. */
    static void aValueMayBeTheSameNumberAsAnAnswer(Check check) {
        SignRow x = new SignRow();
        int was = 5;
        for (int v = Given.ROOM; v <= Given.UNKNOWN; v++) {
            check.due("stream(5, " + v + ")", was, x.stream(5, v));
            was = v;
        }
        check.due("UNKNOWN was its value", Given.UNKNOWN, x.stream(5, 8));
        check.due("it was set all the same", 8, x.stream(5, 8));
    }

    /** "UNKNOWN (replica)". */
    static void noSuchReplica(Check check) {
        check.changesNothing("refused calls", () -> Given.text("ab"), x -> {
            for (int r : Given.NO_REPLICAS) {
                check.due("stream(" + r + ", 1)", Given.UNKNOWN, x.stream(r, 1));
            }
        });
    }

    /** "The STREAM becomes itself times 1664525 and 1013904223". */
    static void aCoinChangesTheStream(Check check) {
        SignRow x = new SignRow();
        x.type(1, 0, 65);
        check.due("1 times 1664525 and 1013904223", 1015568748, x.stream(1, 1015568748));
        check.path("15496, modulo 10", x, 1, 0, 7, 1, 1);
        x.type(1, 1, 66);
        // 1015568748 * 1664525 + 1013904223 is 1586005467 modulo 2^32: coin 24200, modulo 8 digits.
        check.due("once more", 1586005467, x.stream(1, 0));
        check.path("24200, modulo 8", x, 1, 1, 8, 1, 2);
    }

    /** "(wrapping)". */
    static void theStreamWraps(Check check) {
        SignRow x = new SignRow();
        x.stream(0, Given.GREATEST);
        x.type(0, 0, 65);
        // 2147483647 * 1664525 + 1013904223 is 3159723346 modulo 2^32.
        check.due("above the greatest int", (int) 3159723346L, x.stream(0, Given.LEAST));
        check.path("48213, modulo 10", x, 0, 0, 4, 0, 1);
        x.type(0, 1, 66);
        // -2147483648 * 1664525 + 1013904223 is 3161387871 modulo 2^32.
        check.due("below the least int", (int) 3161387871L, x.stream(0, 0));
        check.path("48238, modulo 10", x, 0, 1, 13, 0, 2);
    }

    /** "Shifted right by 16, zeros coming in". */
    static void zerosComeIn(Check check) {
        SignRow x = new SignRow();
        Given.typeByCoin(x, 65535, 0, 0, 65);
        check.due("the stream is below 0", 1, x.stream(0, 0) < 0 ? 1 : 0);
        check.path("65535, modulo 10", x, 0, 0, 6, 0, 1);
        Given.typeByCoin(x, 32768, 1, 0, 65);
        check.path("32768, modulo 10", x, 1, 0, 9, 1, 1);
    }

    static void eachThrowsItsOwnCoins(Check check) {
        SignRow x = new SignRow();
        x.type(1, 0, 65);
        x.sync(2, 1);
        x.deliver(0);
        check.due("the one who typed", 1015568748, x.stream(1, 0));
        check.due("one who learnt it", 2, x.stream(2, 0));
        check.due("one to whom it came", 0, x.stream(0, 0));
    }

    static void onlyNewPathsThrowCoins(Check check) {
        SignRow x = Given.text("abc");
        x.stream(0, 55);
        x.erase(0, 1);
        x.undo(0);
        x.mark(0, 0, 2, 1, true);
        x.cursor(0, 1, 2);
        x.sync(0, 1);
        x.repeat(0);
        x.lose(0);
        x.same(0, 1);
        check.due("the stream stays", 55, x.stream(0, 1));
        x.paste(0, 0, 2, 65);
        // Two coins from 1: the second leaves what aCoinChangesTheStream works out.
        check.due("two signs, two coins", 1586005467, x.stream(0, 1));
    }
}
