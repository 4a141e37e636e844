import java.util.Random;

/** 'What it is': what the promises give together, asked of whole runs and without a second program beside. */
public final class WhatItIsTest {
    private static final int RUNS = 12;

    public static void main(String[] args) {
        Check.runAll(WhatItIsTest.class);
    }

    /** "Signs have paths that are dense, so that there is one between any two, found by coins." */
    static void signsStandWhereTheyWereTyped(Check check) {
        for (int run = 0; run < RUNS; run++) {
            Random random = new Random(run);
            SignRow x = new SignRow();
            StringBuilder want = new StringBuilder();
            for (int i = 0; i < 200; i++) {
                int place = random.nextInt(want.length() + 1);
                char sign = (char) (32 + random.nextInt(95));
                check.due("type", i, x.type(run % 6, place, sign));
                want.insert(place, sign);
            }
            check.text("run " + run, x, run % 6, want.toString());
        }
    }

    /** "What is done is told in messages that come late, twice, or in another order." */
    static void allAreTheSameWhenAllHasCome(Check check) {
        for (int run = 0; run < RUNS; run++) {
            Random random = new Random(run);
            SignRow x = sixHaveWritten(random, false);
            for (int i = 0; i < 20; i++) {
                x.repeat(random.nextInt(x.count(1)));
            }
            for (int left = x.count(1); left > 0; left--) {
                x.deliver(random.nextInt(left));
            }
            allAreAlike(check, "run " + run, x);
        }
    }

    /** The same, some coming between one's own deeds, and the others the last one first. */
    static void allAreTheSameThoughSomeCameBetween(Check check) {
        for (int run = 0; run < RUNS; run++) {
            Random random = new Random(run);
            SignRow x = sixHaveWritten(random, true);
            for (int left = x.count(1); left > 0; left--) {
                x.deliver(left - 1);
            }
            allAreAlike(check, "run " + run, x);
        }
    }

    /** Messages that are lost are made good by sync. */
    static void allAreTheSameWhenAllHasBeenLearnt(Check check) {
        for (int run = 0; run < RUNS; run++) {
            SignRow x = sixHaveWritten(new Random(run), true);
            for (int left = x.count(1); left > 0; left--) {
                x.lose(0);
            }
            for (int r = 1; r < 6; r++) {
                x.sync(0, r);
            }
            for (int r = 1; r < 6; r++) {
                x.sync(r, 0);
            }
            allAreAlike(check, "run " + run, x);
        }
    }

    /** Some forty deeds of all sorts by all six, so few that what follows stays under 512 calls. */
    private static SignRow sixHaveWritten(Random random, boolean someCome) {
        SignRow x = Given.textOfAll("abcd");
        for (int i = 0; i < 45; i++) {
            int r = random.nextInt(6);
            int length = x.length(r);
            int place = random.nextInt(length + 1);
            switch (random.nextInt(7)) {
                case 0 -> x.erase(r, place);
                case 1 -> x.undo(r);
                case 2, 3 -> x.mark(r, place, random.nextInt(length + 1), random.nextInt(2), random.nextBoolean());
                default -> x.type(r, place, 32 + random.nextInt(95));
            }
            if (someCome) {
                x.deliver(random.nextInt(x.count(1)));
            }
        }
        return x;
    }

    private static void allAreAlike(Check check, String run, SignRow x) {
        check.due(run + ": none lost for want of room", 0, x.count(2));
        for (int r = 0; r < 6; r++) {
            check.due(run + ": nothing waits at " + r, 0, x.about(r, 0, 1));
            check.due(run + ": same(0, " + r + ")", 1, x.same(0, r));
        }
    }
}
