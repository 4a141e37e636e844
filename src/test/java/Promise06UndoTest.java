/** Promise 6: undo: its latest is UNDONE: the deed by which it is. */
public final class Promise06UndoTest {
    public static void main(String[] args) {
        Check.runAll(Promise06UndoTest.class);
    }

    private static void deed(Check check, SignRow x, int d, int sort, int named) {
        check.due("what " + d + " does", sort, x.deed(d, 3));
        check.due("no sign, no kind", 0, x.deed(d, 4));
        check.due("what it names", named, x.deed(d, 5));
    }

    /** "A TYPE by an ERASE of that sign". */
    static void aTypeByAnErase(Check check) {
        SignRow x = Given.text("ab");
        check.due("undo", 2, x.undo(0));
        deed(check, x, 2, 1, 1);
        check.text("b is gone", x, 0, "a");
        check.due("it is there, not living", 2, x.about(0, 0, 3));
    }

    /** "An ERASE by a RAISE of it". */
    static void anEraseByARaise(Check check) {
        SignRow x = Given.text("ab");
        x.erase(0, 0);
        check.due("undo", 3, x.undo(0));
        deed(check, x, 3, 2, 0);
        check.text("a is back in its place", x, 0, "ab");
    }

    /** "Its latest": one behind the other, back to the first. */
    static void theLatestThatIsNotUndone(Check check) {
        SignRow x = Given.text("abc");
        x.erase(0, 1);
        x.type(0, 2, 'd');
        check.text("before", x, 0, "acd");
        String[] back = {"ac", "abc", "ab", "a", ""};
        for (int i = 0; i < back.length; i++) {
            check.due("undo", 5 + i, x.undo(0));
            check.text("back", x, 0, back[i]);
        }
        check.due("there is none", Given.STATE, x.undo(0));
    }

    /** "STATE (there is none)". */
    static void thereIsNone(Check check) {
        check.changesNothing("refused calls", () -> Given.textOfAll("ab"), x -> {
            for (int r = 1; r < 6; r++) {
                check.due("another's are not its own", Given.STATE, x.undo(r));
            }
        });
        SignRow y = new SignRow();
        check.due("a new object", Given.STATE, y.undo(0));
    }

    /** "Not itself by undoing". */
    static void whatUndidIsNotUndone(Check check) {
        SignRow x = Given.text("a");
        x.undo(0);
        check.due("the ERASE by undoing", Given.STATE, x.undo(0));
        SignRow y = Given.textOfAll("a");
        y.erase(1, 0);
        y.undo(1);
        check.due("the RAISE by undoing", Given.STATE, y.undo(1));
        check.text("it stays", y, 1, "a");
    }

    /** "TYPE or ERASE". */
    static void aMarkIsNotUndone(Check check) {
        SignRow x = Given.textOfAll("ab");
        x.mark(1, 0, 1, 3, true);
        check.due("a MARK alone", Given.STATE, x.undo(1));
        x.type(1, 2, 'c');
        x.mark(1, 0, 0, 4, true);
        check.due("a MARK behind a TYPE", 5, x.undo(1));
        deed(check, x, 5, 1, 3);
        check.due("the marks stay", 24, x.kinds(1, 0));
    }

    /** What came anew behind an undo is undone itself, and then none is left. */
    static void anewBehindAnUndo(Check check) {
        SignRow x = Given.text("a");
        x.undo(0);
        x.type(0, 0, 'b');
        check.due("the new one", 3, x.undo(0));
        deed(check, x, 3, 1, 2);
        check.due("not the first again", Given.STATE, x.undo(0));
    }

    static void oneSignErasedTwice(Check check) {
        SignRow x = Given.text("a");
        x.erase(0, 0);
        x.undo(0);
        x.erase(0, 0);
        check.due("the second ERASE", 4, x.undo(0));
        deed(check, x, 4, 2, 0);
        check.due("the TYPE, for the first ERASE is undone", 5, x.undo(0));
        deed(check, x, 5, 1, 0);
        check.due("there is none", Given.STATE, x.undo(0));
    }

    static void aTypeOfASignThatAnotherErased(Check check) {
        SignRow x = Given.textOfAll("a");
        x.erase(1, 0);
        x.sync(0, 1);
        check.due("undone all the same", 2, x.undo(0));
        deed(check, x, 2, 1, 0);
        check.due("and the other's ERASE by that one", 3, x.undo(1));
        x.sync(1, 0);
        // 0's ERASE and 1's RAISE are of the same TIME: 1 is the greater replica.
        check.due("like TIMES", x.deed(2, 2), x.deed(3, 2));
        check.text("raised", x, 1, "a");
        x.sync(0, 1);
        check.text("there too", x, 0, "a");
    }

    static void anEraseOfASignThatAnotherErasedToo(Check check) {
        SignRow x = Given.textOfAll("a");
        x.erase(0, 0);
        x.erase(1, 0);
        x.sync(0, 1);
        check.due("0 undoes its own", 3, x.undo(0));
        check.text("its RAISE is the latest", x, 0, "a");
        x.sync(1, 0);
        check.text("there too", x, 1, "a");
    }

    static void itIsSentToAllOthers(Check check) {
        SignRow x = Given.text("a");
        x.undo(0);
        check.due("ten messages", 10, x.count(1));
        check.message("the first", x, 5, 1, 1);
        check.message("the last", x, 9, 1, 5);
    }

    /** "UNKNOWN (replica)". */
    static void noSuchReplica(Check check) {
        check.changesNothing("refused calls", () -> Given.text("abc"), x -> {
            for (int r : Given.NO_REPLICAS) {
                check.due("replica " + r, Given.UNKNOWN, x.undo(r));
            }
        });
        check.due("without room", Given.UNKNOWN, Given.deeds(400).undo(6));
    }

    /** "ROOM". */
    static void fourHundredDeeds(Check check) {
        SignRow x = Given.deeds(399);
        check.due("the last one", 399, x.undo(0));
        check.due("one more", Given.ROOM, x.undo(0));
        check.due("the text stays", 398, x.length(0));
        check.changesNothing("refused calls", () -> Given.deeds(400), y -> y.undo(0));
    }

    /** What was refused with ROOM is not undone, so that there still is one. */
    static void whatWasRefusedIsStillToBeUndone(Check check) {
        SignRow x = Given.deeds(399);
        x.type(3, 0, 'x');
        check.due("its only one", Given.ROOM, x.undo(3));
        check.due("it is still there", Given.ROOM, x.undo(3));
        check.text("and lives", x, 3, "x");
    }

    /** STATE is named before ROOM. */
    static void noneWithoutRoom(Check check) {
        SignRow x = Given.deeds(400);
        check.due("there is none", Given.STATE, x.undo(1));
        x.sync(1, 0);
        check.due("nor when it knows all", Given.STATE, x.undo(1));
    }
}
