import java.util.ArrayList;
import java.util.List;

/** What tests begin from: numbers at the edges, and objects in the states that they need. */
final class Given {
    static final int UNKNOWN = -101, OUTSIDE = -102, STATE = -103, ROOM = -104;
    static final int LEAST = Integer.MIN_VALUE, GREATEST = Integer.MAX_VALUE;
    static final int[] NO_REPLICAS = {-1, 6, LEAST, GREATEST};

    private Given() {
    }

    /** The STREAM from which the next coin is the one wanted (0 .. 65535). */
    static int streamFor(int coin) {
        int inverse = 1;
        for (int i = 0; i < 5; i++) {
            inverse *= 2 - 1664525 * inverse;
        }
        return ((coin << 16) - 1013904223) * inverse;
    }

    static int typeByCoin(SignRow x, int coin, int r, int place, int sign) {
        x.stream(r, streamFor(coin));
        return x.type(r, place, sign);
    }

    /** Types with the STEP that is wanted (1 .. 10, if so many digits are free). */
    static int typeByStep(SignRow x, int step, int r, int place, int sign) {
        return typeByCoin(x, step - 1, r, place, sign);
    }

    /** Replica 0 has typed a text. */
    static SignRow text(String text) {
        SignRow x = new SignRow();
        for (int i = 0; i < text.length(); i++) {
            x.type(0, i, text.charAt(i));
        }
        return x;
    }

    /** Replica 0 has typed signs from 'a' on, whose paths have one level with these DIGITs (each at most 10 on). */
    static SignRow digits(int... digits) {
        SignRow x = new SignRow();
        int last = 0;
        for (int i = 0; i < digits.length; i++) {
            typeByStep(x, digits[i] - last, 0, i, 'a' + i);
            last = digits[i];
        }
        return x;
    }

    /** All six have done the same deeds, by which replica 0 typed a text. */
    static SignRow textOfAll(String text) {
        SignRow x = text(text);
        for (int r = 1; r < 6; r++) {
            x.sync(r, 0);
        }
        return x;
    }

    /**
     * A replica's signs have paths of 1, 2, .. levels: always with STEP 1, behind a sign of even
     * depth and before one of odd depth. The deepest is at the place (levels - 1) / 2.
     */
    static SignRow deep(int r, int levels) {
        SignRow x = new SignRow();
        for (int depth = 1; depth <= levels; depth++) {
            typeByStep(x, 1, r, (depth - 1) / 2, 64 + depth);
        }
        return x;
    }

    /** So many deeds were done, all by replica 0, which typed as many signs, each at the end. */
    static SignRow deeds(int many) {
        SignRow x = new SignRow();
        for (int have = 0; have < many; have += 20) {
            x.paste(0, have, Math.min(20, many - have), 40);
        }
        return x;
    }

    /** So many messages are on the way (a multiple of 5, at most 300), of signs typed by replica 0. */
    static SignRow messages(int many) {
        return deeds(many / 5);
    }

    /** Delivers the first message on the way with that deed to that replica. */
    static int bring(SignRow x, int deed, int to) {
        for (int i = 0; i < x.count(1); i++) {
            if (x.message(i, 0) == deed && x.message(i, 1) == to) {
                return x.deliver(i);
            }
        }
        return SignRow.NONE;
    }

    /** What an object answers to questions of all sorts, and at last to what depends on its past. */
    static int[] allThatIsSeen(SignRow x) {
        List<Integer> seen = new ArrayList<>();
        for (int what = 0; what < 3; what++) {
            seen.add(x.count(what));
        }
        for (int r = 0; r < 6; r++) {
            seeReplica(x, r, seen);
        }
        for (int i = 0; i < Math.min(5, x.count(1)); i++) {
            seeMessage(x, i, seen);
            seeMessage(x, x.count(1) - 1 - i, seen);
        }
        for (int r = 0; r < 6; r++) {
            int by = x.undo(r);
            seen.add(by);
            seen.add(x.deed(by, 3));
            seen.add(x.deed(by, 5));
            seen.add(x.stream(r, 0));
        }
        return seen.stream().mapToInt(Integer::intValue).toArray();
    }

    private static void seeReplica(SignRow x, int r, List<Integer> seen) {
        for (int q = 0; q < 6; q++) {
            seen.add(x.about(r, q, 0));
        }
        for (int what = 1; what < 4; what++) {
            seen.add(x.about(r, 0, what));
        }
        for (int k = 0; k < 4; k++) {
            seen.add(x.at(r, k));
        }
        int length = x.length(r);
        seen.add(length);
        for (int place = 0; place < Math.min(6, length); place++) {
            seen.add(x.sign(r, place));
            seen.add(x.kinds(r, place));
        }
    }

    private static void seeMessage(SignRow x, int i, List<Integer> seen) {
        seen.add(x.message(i, 0));
        seen.add(x.message(i, 1));
    }
}
