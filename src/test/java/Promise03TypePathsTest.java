/** Promise 3: type: the path is new between that of the sign before that place and the next one that it has. */
public final class Promise03TypePathsTest {
    public static void main(String[] args) {
        Check.runAll(Promise03TypePathsTest.class);
    }

    /** "STEP is 1 + (coin modulo the least of 10 and Q - P - 1)": where 15 digits are free. */
    static void stepIsAtMostTen(Check check) {
        int[][] coinAndDigit = {{0, 1}, {9, 10}, {10, 1}, {19, 10}, {65535, 6}};
        for (int[] pair : coinAndDigit) {
            SignRow x = new SignRow();
            Given.typeByCoin(x, pair[0], 0, 0, 65);
            check.path("coin " + pair[0], x, 0, 0, pair[1], 0, 1);
        }
    }

    /** The same where 11, 10, 9 and 2 digits are free. */
    static void stepIsAtMostWhatIsFree(Check check) {
        int[][] lastCoinAndDigit = {
            {4, 10, 5}, {5, 9, 15}, {5, 10, 6}, {6, 8, 15}, {6, 9, 7}, {13, 1, 15}, {13, 2, 14}, {13, 65535, 15},
        };
        for (int[] set : lastCoinAndDigit) {
            SignRow x = set[0] > 10 ? Given.digits(7, set[0]) : Given.digits(set[0]);
            int end = x.length(0);
            Given.typeByCoin(x, set[1], 0, end, 65);
            check.path("behind " + set[0] + ", coin " + set[1], x, 0, end, set[2], 0, end + 1);
        }
    }

    /** "If Q - P is above 1": it is 2. */
    static void oneDigitIsFree(Check check) {
        for (int coin : new int[] {0, 1, 9, 65535}) {
            SignRow x = Given.digits(4, 6);
            Given.typeByCoin(x, coin, 0, 1, 65);
            check.path("coin " + coin, x, 0, 1, 5, 0, 3);
        }
        SignRow y = Given.digits(7, 14);
        Given.typeByCoin(y, 65535, 0, 2, 65);
        check.path("below the base", y, 0, 2, 15, 0, 3);
        SignRow z = Given.digits(2);
        Given.typeByCoin(z, 65535, 0, 0, 65);
        check.path("above none", z, 0, 0, 1, 0, 2);
    }

    /** "Else, if p has a level k: that is its level k": Q - P is 1. */
    static void noDigitIsFree(Check check) {
        SignRow x = Given.digits(4, 5);
        Given.typeByStep(x, 3, 0, 1, 65);
        check.path("between 4 and 5", x, 0, 1, 4, 0, 1, 29, 0, 3);
        check.text("in its place", x, 0, "aAb");
        SignRow y = Given.digits(7, 15);
        Given.typeByStep(y, 3, 0, 2, 65);
        check.path("between 15 and the base", y, 0, 2, 15, 0, 2, 29, 0, 3);
        check.text("in its place", y, 0, "abA");
    }

    /** "By odd k the DIGIT is P + STEP, by even k Q - STEP". */
    static void oddLevelsGoUpAndEvenOnesDown(Check check) {
        SignRow x = Given.digits(4, 5);
        Given.typeByStep(x, 10, 0, 1, 65);
        check.path("level 2, from the base 32", x, 0, 1, 4, 0, 1, 22, 0, 3);
        Given.typeByStep(x, 10, 0, 1, 66);
        check.path("level 2, from 22", x, 0, 1, 4, 0, 1, 12, 0, 4);
        Given.typeByStep(x, 9, 0, 2, 67);
        check.path("level 2, between 12 and 22", x, 0, 2, 4, 0, 1, 13, 0, 5);
        Given.typeByStep(x, 10, 0, 2, 68);
        check.path("level 3, from none", x, 0, 2, 4, 0, 1, 12, 0, 4, 10, 0, 6);
        Given.typeByStep(x, 10, 0, 3, 69);
        check.path("level 3, from 10", x, 0, 3, 4, 0, 1, 12, 0, 4, 20, 0, 7);
        check.text("all in their places", x, 0, "aBDECAb");
    }

    /** "If q is a BOUND, and its level k is another one, it is none any more": another DIGIT. */
    static void aBoundOfAnotherDigitIsNoneAnyMore(Check check) {
        SignRow x = Given.digits(4, 5);
        Given.typeByStep(x, 10, 0, 2, 'c');
        Given.typeByStep(x, 1, 0, 1, 65);
        // Q of level 2 is the base, though b's path has no such level.
        check.path("from the base 32", x, 0, 1, 4, 0, 1, 31, 0, 4);
        Given.typeByStep(x, 1, 0, 2, 66);
        // And again at level 3: level 2 has no digit between 31 and 32.
        check.path("from none", x, 0, 2, 4, 0, 1, 31, 0, 4, 1, 0, 5);
    }

    /** The same: its DIGIT is the same one, but not its SITE. */
    static void aBoundOfAnotherSiteIsNoneAnyMore(Check check) {
        SignRow x = new SignRow();
        Given.typeByStep(x, 5, 1, 0, 'p');
        Given.typeByStep(x, 5, 2, 0, 'q');
        x.sync(2, 1);
        check.text("in order by sites", x, 2, "pq");
        Given.typeByStep(x, 7, 2, 1, 'x');
        check.path("p's level, and the base", x, 2, 1, 5, 1, 1, 25, 2, 2);
        check.text("between", x, 2, "pxq");
    }

    /** A BOUND whose level k is not another one stays a BOUND: p ends where q goes on. */
    static void aBoundOfTheSameLevelStaysOne(Check check) {
        SignRow x = Given.digits(4, 5);
        Given.typeByStep(x, 10, 0, 1, 65);
        Given.typeByStep(x, 3, 0, 1, 66);
        check.path("below 22, not below the base", x, 0, 1, 4, 0, 1, 19, 0, 4);
        // p and q are alike in level 1, and of level 2 no digit is between them.
        Given.typeByStep(x, 2, 0, 2, 67);
        check.path("between 19 and 22", x, 0, 2, 4, 0, 1, 20, 0, 5);
        Given.typeByStep(x, 8, 0, 2, 68);
        check.path("none is free: behind 19", x, 0, 2, 4, 0, 1, 19, 0, 4, 8, 0, 6);
        check.text("all in their places", x, 0, "aBDCAb");
    }

    /** "If its DIGIT is 1: DIGIT 0, this replica and c; q is no BOUND any more." */
    static void beforeADigitOfOne(Check check) {
        SignRow x = Given.digits(1);
        Given.typeByStep(x, 9, 0, 0, 65);
        check.path("level 1", x, 0, 0, 0, 0, 2, 23, 0, 2);
        check.text("before it", x, 0, "Aa");

        SignRow y = Given.digits(4, 5);
        for (int step : new int[] {10, 10, 10, 1}) {
            Given.typeByStep(y, step, 0, 1, 65);
        }
        check.path("a path with DIGIT 1 in level 2", y, 0, 1, 4, 0, 1, 1, 0, 6);
        Given.typeByStep(y, 7, 0, 1, 66);
        check.path("level 2", y, 0, 1, 4, 0, 1, 0, 0, 7, 7, 0, 7);
        check.text("before it", y, 0, "aBAAAAb");
    }

    /** The same: this replica and its count, not q's. */
    static void beforeAnothersDigitOfOne(Check check) {
        SignRow x = Given.digits(1);
        x.sync(4, 0);
        x.type(4, 1, 'x');
        Given.typeByStep(x, 2, 4, 0, 65);
        check.path("its own level", x, 4, 0, 0, 4, 2, 30, 4, 2);
    }

    /** "If q is a BOUND with DIGIT 0: that level of q is its level k": and q stays a BOUND. */
    static void beforeADigitOfZero(Check check) {
        SignRow x = Given.digits(1);
        Given.typeByStep(x, 9, 0, 0, 65);
        Given.typeByStep(x, 3, 0, 0, 66);
        check.path("q's level, and below its 23", x, 0, 0, 0, 0, 2, 20, 0, 3);
        x.sync(5, 0);
        Given.typeByStep(x, 4, 5, 0, 67);
        check.path("q's level with q's replica and count", x, 5, 0, 0, 0, 2, 16, 5, 1);
        check.text("before it", x, 5, "CBAa");
    }

    /** "q (or none: the end)": Q is BASE(k), 2^(k + 3), which the last DIGIT comes to and never is. */
    static void basesOfLevelsOneToEight(Check check) {
        SignRow x = Given.deeds(400);
        check.due("all came", 400, x.length(0));
        check.due("levels", 9, x.path(0, 399, 0, 0));
        for (int k = 1; k <= 8; k++) {
            check.due("level " + k, (1 << (k + 3)) - 1, x.path(0, 399, k, 1));
        }
    }

    /** "At most 4096". */
    static void basesAreAtMost4096(Check check) {
        SignRow x = Given.deep(0, 12);
        check.due("level 8", 2047, x.path(0, 3, 8, 1));
        check.due("level 10", 4095, x.path(0, 4, 10, 1));
        check.due("level 12", 4095, x.path(0, 5, 12, 1));
    }

    /** "A PATH has 1 to 12 LEVELS". */
    static void twelveLevels(Check check) {
        SignRow x = Given.deep(0, 12);
        check.text("all twelve came", x, 0, "BDFHJLKIGECA");
        for (int i = 0; i < 12; i++) {
            int depth = x.sign(0, i) - 64;
            check.due("levels of " + depth, depth, x.path(0, i, 0, 0));
        }
        check.due("before the deepest, in its level 12", 12, Given.typeByStep(x, 5, 0, 5, 'x'));
        check.due("12 too", 12, x.path(0, 5, 0, 0));
        check.due("from 4095 back", 4090, x.path(0, 5, 12, 1));
    }

    /** "A 13th level: ROOM"; "no coin is thrown then". */
    static void aThirteenthLevel(Check check) {
        SignRow x = Given.deep(0, 12);
        x.stream(0, 77);
        check.due("behind the deepest", Given.ROOM, x.type(0, 6, 65));
        check.due("no coin", 77, x.stream(0, 77));
        check.changesNothing("refused calls", () -> Given.deep(0, 12), y -> {
            y.type(0, 6, 65);
            y.type(0, 6, 66);
        });
    }

    static void behindARefusedOneOthersCome(Check check) {
        SignRow x = Given.deep(3, 12);
        x.type(3, 6, 65);
        check.due("at the end", 12, Given.typeByStep(x, 4, 3, 12, 'x'));
        check.path("its path, of the next count", x, 3, 12, 5, 3, 13);
        check.text("all", x, 3, "BDFHJLKIGECAx");
    }

    /** "(The beginning, at 0)": though an erased sign is the first that it has. */
    static void theBeginningAtPlaceZero(Check check) {
        SignRow x = Given.digits(4, 8);
        x.erase(0, 0);
        Given.typeByStep(x, 9, 0, 0, 65);
        // 8 modulo the 3 digits below 4: not between 4 and 8.
        check.path("before the erased one", x, 0, 0, 3, 0, 4);
        x.undo(0);
        x.undo(0);
        check.text("which comes back", x, 0, "ab");
    }

    /** "The next one that the replica has, living or not". */
    static void theNextOneMayBeErased(Check check) {
        SignRow x = Given.digits(4, 8, 12);
        x.erase(0, 1);
        Given.typeByStep(x, 10, 0, 1, 65);
        // 9 modulo the 3 digits between 4 and 8, not the 7 below 12.
        check.path("before the erased one", x, 0, 1, 5, 0, 5);
        SignRow y = Given.digits(4, 8);
        y.erase(0, 1);
        Given.typeByStep(y, 10, 0, 1, 65);
        check.path("at the end", y, 0, 1, 5, 0, 4);
    }

    /** "The sign before that place": one of the TEXT, not the erased one behind it. */
    static void theOneBeforeLives(Check check) {
        SignRow x = Given.digits(4, 8, 12);
        x.erase(0, 1);
        Given.typeByStep(x, 2, 0, 1, 65);
        check.path("behind a, before b", x, 0, 1, 6, 0, 5);
        x.undo(0);
        x.undo(0);
        check.text("b comes back where it was", x, 0, "abc");
    }

    /** "That it has": another's signs are no bounds before they came, and are then. */
    static void whatItHasNotIsNoBound(Check check) {
        SignRow x = Given.digits(4);
        Given.typeByStep(x, 5, 1, 0, 65);
        check.path("as in an empty text", x, 1, 0, 5, 1, 1);
        x.sync(1, 0);
        Given.typeByStep(x, 5, 1, 1, 66);
        check.path("between 4 and 5", x, 1, 1, 4, 0, 1, 27, 1, 2);
    }

    /** "TYPE a sign with a new path, c being n": n counts deeds of all sorts, of that replica alone. */
    static void theCountIsTheNumberOfTheDeed(Check check) {
        SignRow x = Given.digits(4);
        x.erase(0, 0);
        x.undo(0);
        x.mark(0, 0, 0, 1, true);
        Given.typeByStep(x, 4, 0, 1, 65);
        check.path("0's fifth", x, 0, 1, 8, 0, 5);
        Given.typeByStep(x, 4, 5, 0, 65);
        check.path("5's first", x, 5, 0, 4, 5, 1);
    }

    /** "PATHS by the first level in which they are not alike; one that ends there is before one that goes on". */
    static void pathsInOrder(Check check) {
        SignRow x = new SignRow();
        Given.typeByStep(x, 5, 3, 0, 'c');
        Given.typeByStep(x, 6, 1, 0, 'd');
        Given.typeByStep(x, 5, 2, 0, 'a');
        x.sync(2, 1);
        // Between a (5, 2) and d (6, 1): a's level and one more, before c (5, 3) that 2 has not.
        Given.typeByStep(x, 1, 2, 1, 'b');
        for (int r = 0; r < 3; r++) {
            x.sync(4, r + 1);
        }
        check.text("DIGIT before SITE, the shorter first", x, 4, "abcd");
    }

    /** The same: they are not alike in the twelfth level alone. */
    static void pathsInOrderByTheirLastLevel(Check check) {
        SignRow x = Given.deep(0, 12);
        x.sync(1, 0);
        Given.typeByStep(x, 5, 0, 5, 'v');
        Given.typeByStep(x, 2, 1, 5, 'w');
        check.due("0's", 4090, x.path(0, 5, 12, 1));
        check.due("1's", 4093, x.path(1, 5, 12, 1));
        x.sync(0, 1);
        x.sync(1, 0);
        check.text("by the twelfth DIGIT", x, 0, "BDFHJvwLKIGECA");
        check.due("so it is there", 1, x.same(0, 1));
    }

    /** "A text that six write at once, each at a place of his own". */
    static void likeDigitsOfAllSix(Check check) {
        SignRow x = new SignRow();
        for (int r = 5; r >= 0; r--) {
            Given.typeByStep(x, 8, r, 0, 'a' + r);
        }
        for (int r = 0; r < 6; r++) {
            x.sync(2, r);
        }
        check.text("by sites", x, 2, "abcdef");
    }
}
