import java.util.function.IntSupplier;

/** Counts and prints the answers that are not the ones that are due. */
final class Check {
    private int asked;
    private int wrong;

    void due(String call, int want, int got) {
        asked++;
        if (got != want) {
            wrong++;
            System.out.println(call + " answered " + got + ", due is " + want);
        }
    }

    void outOfBounds(String call, IntSupplier question) {
        asked++;
        try {
            int got = question.getAsInt();
            wrong++;
            System.out.println(call + " answered " + got + ", due is an IndexOutOfBoundsException");
        } catch (IndexOutOfBoundsException e) {
            // The machine's own exception is of a class below this one, and is not what is due.
            if (e.getClass() != IndexOutOfBoundsException.class) {
                wrong++;
                System.out.println(call + " threw " + e);
            }
        }
    }

    void path(String call, SignRow row, int r, int place, int... levels) {
        due(call + " levels", levels.length / 3, row.path(r, place, 0, 0));
        for (int i = 0; i < levels.length && i / 3 < row.path(r, place, 0, 0); i++) {
            due(call + " level " + (i / 3 + 1) + " part " + (i % 3 + 1), levels[i],
                    row.path(r, place, i / 3 + 1, i % 3 + 1));
        }
    }

    void text(String call, SignRow row, int r, String want) {
        StringBuilder got = new StringBuilder();
        for (int i = 0; i < row.length(r); i++) {
            got.append((char) row.sign(r, i));
        }
        asked++;
        if (!want.contentEquals(got)) {
            wrong++;
            System.out.println(call + ": the text is '" + got + "', due is '" + want + "'");
        }
    }

    int wrong() {
        return wrong;
    }

    void end() {
        System.out.println(asked + " answers, " + wrong + " not as due");
        if (wrong != 0 || asked == 0) {
            System.exit(1);
        }
    }

    /** The STREAM from which the next coin is the one wanted (0 .. 65535). */
    static int streamFor(int coin) {
        int inverse = 1;
        for (int i = 0; i < 5; i++) {
            inverse *= 2 - 1664525 * inverse;
        }
        return ((coin << 16) - 1013904223) * inverse;
    }
}
