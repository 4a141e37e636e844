import java.util.Random;

/** Runs of calls by chance (always the same ones), each answer beside that of the plain model. */
public final class ModelTest {
    private static final int RUNS = 240;
    /** An object answers 512 calls as promised, and a question for a sign is three of them. */
    private static final int CALLS = 510;
    private static final int LAST_CHANGE = 420;
    private static final int[] WILD = {
        Integer.MIN_VALUE, Integer.MAX_VALUE, Integer.MIN_VALUE + 1, Integer.MAX_VALUE - 1, -400, 400, 1 << 16, 1 << 24,
    };

    private final Check check = new Check();
    private Random random;
    private SignRow row;
    private Model model;
    private String run;
    private int calls;
    /** How likely each call is in this run: runs of unlike temper come to unlike edges. */
    private int[] weights;
    private int replicas;
    private boolean steep;

    public static void main(String[] args) {
        ModelTest test = new ModelTest();
        for (int seed = 0; seed < RUNS && test.check.wrong() < 20; seed++) {
            test.oneRun(seed);
        }
        test.check.end();
    }

    private static final int[][] TEMPERS = {
        // stream type paste erase undo mark deliver lose repeat sync asks
        {2, 20, 3, 8, 6, 8, 30, 3, 5, 4, 25},
        {30, 60, 2, 4, 2, 1, 10, 2, 2, 2, 15},
        {2, 10, 25, 5, 5, 5, 5, 2, 2, 4, 15},
        {1, 10, 1, 10, 10, 15, 80, 4, 20, 2, 20},
        {1, 10, 2, 25, 25, 10, 10, 2, 3, 8, 20},
        {1, 25, 4, 4, 3, 40, 10, 2, 3, 8, 20},
    };

    private void oneRun(int seed) {
        random = new Random(seed);
        row = new SignRow();
        model = new Model();
        run = "run " + seed + ": ";
        weights = TEMPERS[seed % TEMPERS.length];
        replicas = 1 + random.nextInt(6);
        steep = seed % TEMPERS.length == 1;
        calls = 0;
        while (calls < LAST_CHANGE) {
            change();
        }
        while (calls < CALLS) {
            int r = replica();
            ask(r, placeIn(r));
        }
    }

    private void change() {
        int total = 0;
        for (int w : weights) {
            total += w;
        }
        int ball = random.nextInt(total);
        int which = 0;
        while (ball >= weights[which]) {
            ball -= weights[which];
            which++;
        }
        callOf(which);
    }

    private void callOf(int which) {
        int r = replica();
        int place = placeIn(r);
        switch (which) {
            case 0 -> {
                int v = steep ? Given.streamFor(10 * random.nextInt(3)) : random.nextInt();
                due("stream(" + r + ", " + v + ")", model.stream(r, v), row.stream(r, v));
            }
            case 1 -> {
                int sign = odd() ? random.nextInt(140) : 32 + random.nextInt(95);
                int spot = steep && model.length(r) > 0 ? model.length(r) / 2 : place;
                due("type(" + r + ", " + spot + ", " + sign + ")", model.type(r, spot, sign), row.type(r, spot, sign));
            }
            case 2 -> {
                int n = odd() ? random.nextInt(24) - 1 : 1 + random.nextInt(20);
                int sign = odd() ? random.nextInt(140) : 32 + random.nextInt(95);
                due("paste(" + r + ", " + place + ", " + n + ", " + sign + ")",
                        model.paste(r, place, n, sign), row.paste(r, place, n, sign));
            }
            case 3 -> due("erase(" + r + ", " + place + ")", model.erase(r, place), row.erase(r, place));
            case 4 -> due("undo(" + r + ")", model.undo(r), row.undo(r));
            case 5 -> {
                int to = odd() ? placeIn(r) : place + random.nextInt(4);
                int kind = odd() ? random.nextInt(11) - 1 : random.nextInt(3);
                boolean on = random.nextInt(3) > 0;
                due("mark(" + r + ", " + place + ", " + to + ", " + kind + ", " + on + ")",
                        model.mark(r, place, to, kind, on), row.mark(r, place, to, kind, on));
            }
            case 6 -> {
                int i = messageOnTheWay();
                due("deliver(" + i + ")", model.deliver(i), row.deliver(i));
            }
            case 7 -> {
                int i = messageOnTheWay();
                due("lose(" + i + ")", model.lose(i), row.lose(i));
            }
            case 8 -> {
                int i = messageOnTheWay();
                due("repeat(" + i + ")", model.repeat(i), row.repeat(i));
            }
            case 9 -> {
                int q = replica();
                due("sync(" + r + ", " + q + ")", model.sync(r, q), row.sync(r, q));
            }
            default -> ask(r, place);
        }
    }

    private void ask(int r, int place) {
        int k = wild() ? wildNumber() : random.nextInt(6) - 1;
        int q = replica();
        switch (random.nextInt(9)) {
            case 0 -> due("cursor(" + r + ", " + k + ", " + place + ")", model.cursor(r, k, place), row.cursor(r, k, place));
            case 1 -> due("at(" + r + ", " + k + ")", model.at(r, k), row.at(r, k));
            case 2 -> askSign(r, place, random.nextInt(15) - 1, random.nextInt(6) - 1);
            case 3 -> due("about(" + r + ", " + q + ", " + k + ")", model.about(r, q, k), row.about(r, q, k));
            case 4 -> due("same(" + r + ", " + q + ")", model.same(r, q), row.same(r, q));
            case 5 -> {
                int d = random.nextInt(model.count(0) + 2) - 1;
                int what = random.nextInt(8) - 1;
                due("deed(" + d + ", " + what + ")", model.deed(d, what), row.deed(d, what));
            }
            case 6 -> {
                int i = messageOnTheWay();
                due("message(" + i + ", " + k + ")", model.message(i, k), row.message(i, k));
            }
            case 7 -> due("length(" + r + ")", model.length(r), row.length(r));
            default -> due("count(" + k + ")", model.count(k), row.count(k));
        }
    }

    private void askSign(int r, int place, int level, int what) {
        due("sign(" + r + ", " + place + ")", model.sign(r, place), orThrows(() -> row.sign(r, place)));
        due("kinds(" + r + ", " + place + ")", model.kinds(r, place), orThrows(() -> row.kinds(r, place)));
        due("path(" + r + ", " + place + ", " + level + ", " + what + ")",
                model.path(r, place, level, what), orThrows(() -> row.path(r, place, level, what)));
    }

    private static int orThrows(java.util.function.IntSupplier question) {
        try {
            return question.getAsInt();
        } catch (IndexOutOfBoundsException e) {
            return e.getClass() == IndexOutOfBoundsException.class ? Model.THROWS : Model.THROWS + 1;
        }
    }

    private boolean odd() {
        return random.nextInt(12) == 0;
    }

    /** Now and then an argument is far outside. */
    private boolean wild() {
        return random.nextInt(100) == 0;
    }

    private int wildNumber() {
        return WILD[random.nextInt(WILD.length)];
    }

    private int replica() {
        if (wild()) {
            return wildNumber();
        }
        return random.nextInt(40) == 0 ? random.nextInt(9) - 1 : random.nextInt(replicas);
    }

    private int placeIn(int r) {
        if (wild()) {
            return wildNumber();
        }
        int length = Math.max(0, model.length(r));
        return odd() ? random.nextInt(length + 4) - 2 : random.nextInt(length + 1);
    }

    /** Mostly an early one, so that what waits comes to be done, and at times any. */
    private int messageOnTheWay() {
        if (wild()) {
            return wildNumber();
        }
        int total = model.count(1);
        int bound = random.nextInt(3) == 0 ? total : Math.min(total, 12);
        return random.nextInt(30) == 0 ? random.nextInt(303) - 1 : random.nextInt(bound + 1);
    }

    private void due(String call, int want, int got) {
        calls++;
        check.due(run + call, want, got);
    }
}
