/** Promise 14: path: of the path of the sign at a place, how many levels, or a part of one. */
public final class Promise14PathTest {
    public static void main(String[] args) {
        Check.runAll(Promise14PathTest.class);
    }

    /** Replica 4 has a path of two levels at 0, and one of one level at 1. */
    private static SignRow twoPaths() {
        SignRow x = new SignRow();
        Given.typeByStep(x, 1, 4, 0, 'b');
        Given.typeByStep(x, 1, 4, 0, 'a');
        return x;
    }

    static void allPartsOfAllLevels(Check check) {
        SignRow x = twoPaths();
        check.path("two levels", x, 4, 0, 0, 4, 2, 31, 4, 2);
        check.path("one level", x, 4, 1, 1, 4, 1);
    }

    /** "What = 0 how many levels (level is not asked)". */
    static void levelIsNotAskedForHowMany(Check check) {
        SignRow x = twoPaths();
        for (int level : new int[] {0, 1, 3, -1, 13, Given.LEAST, Given.GREATEST}) {
            check.due("level " + level, 2, x.path(4, 0, level, 0));
            check.due("level " + level, 1, x.path(4, 1, level, 0));
        }
    }

    /** "Of a level (from 1)"; "IndexOutOfBoundsException: .. level". */
    static void levelsOutside(Check check) {
        SignRow x = twoPaths();
        for (int what = 1; what <= 3; what++) {
            int asked = what;
            for (int level : new int[] {0, 3, -1, 12, 13, Given.LEAST, Given.GREATEST}) {
                check.outOfBounds("level " + level + " of two", () -> x.path(4, 0, level, asked));
            }
            check.outOfBounds("level 2 of one", () -> x.path(4, 1, 2, asked));
        }
    }

    /** "A PATH has 1 to 12 LEVELS". */
    static void theTwelfthLevel(Check check) {
        SignRow x = Given.deep(2, 12);
        check.due("levels", 12, x.path(2, 5, 0, 0));
        check.due("DIGIT", 4095, x.path(2, 5, 12, 1));
        check.due("SITE", 2, x.path(2, 5, 12, 2));
        check.due("COUNT", 12, x.path(2, 5, 12, 3));
        check.outOfBounds("level 13", () -> x.path(2, 5, 13, 1));
        check.outOfBounds("level 12 of eleven", () -> x.path(2, 6, 12, 1));
    }

    /** "IndexOutOfBoundsException: .. what ..". */
    static void nothingElseCanBeAsked(Check check) {
        SignRow x = twoPaths();
        for (int what : new int[] {-1, 4, Given.LEAST, Given.GREATEST}) {
            check.outOfBounds("what " + what, () -> x.path(4, 0, 1, what));
            check.outOfBounds("what " + what + ", level 0", () -> x.path(4, 0, 0, what));
        }
    }

    /** "IndexOutOfBoundsException: .. place ..", for how many levels too. */
    static void placesOutside(Check check) {
        SignRow x = twoPaths();
        for (int place : new int[] {-1, 2, 400, Given.LEAST, Given.GREATEST}) {
            check.outOfBounds("place " + place, () -> x.path(4, place, 1, 0));
            check.outOfBounds("place " + place, () -> x.path(4, place, 1, 1));
        }
        check.outOfBounds("an empty text", () -> x.path(0, 0, 1, 0));
    }

    /** "IndexOutOfBoundsException: replica ..", for how many levels too. */
    static void noSuchReplica(Check check) {
        SignRow x = Given.textOfAll("a");
        check.due("the last one", 1, x.path(5, 0, 1, 0));
        for (int r : Given.NO_REPLICAS) {
            check.outOfBounds("replica " + r, () -> x.path(r, 0, 1, 0));
            check.outOfBounds("replica " + r, () -> x.path(r, 0, 1, 3));
        }
    }

    /** The place is in the TEXT, and the path stays what it was. */
    static void erasedSignsHaveNoPlace(Check check) {
        SignRow x = twoPaths();
        x.erase(4, 0);
        check.path("the one behind it", x, 4, 0, 1, 4, 1);
        check.outOfBounds("none", () -> x.path(4, 1, 1, 0));
        x.undo(4);
        check.path("raised", x, 4, 0, 0, 4, 2, 31, 4, 2);
    }

    /** The greatest COUNT and the greatest SITE. */
    static void theFourHundredthDeedOfTheLastReplica(Check check) {
        SignRow x = new SignRow();
        for (int i = 0; i < 20; i++) {
            x.paste(5, 20 * i, 20, 65);
        }
        int levels = x.path(5, 399, 0, 0);
        check.due("COUNT", 400, x.path(5, 399, levels, 3));
        check.due("SITE", 5, x.path(5, 399, levels, 2));
    }
}
