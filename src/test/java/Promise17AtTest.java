/** Promise 17: at: the PLACE of a cursor. UNKNOWN, OUTSIDE. */
public final class Promise17AtTest {
    public static void main(String[] args) {
        Check.runAll(Promise17AtTest.class);
    }

    /** "How many signs of the TEXT are not behind that sign": it and those before it. */
    static void howManyAreNotBehindIt(Check check) {
        SignRow x = Given.text("abc");
        for (int place = 0; place <= 3; place++) {
            x.cursor(0, place, place);
            check.due("set to " + place, place, x.at(0, place));
        }
    }

    /** "Each at the beginning": and there it stays, whatever comes. */
    static void oneAtTheBeginningStaysThere(Check check) {
        SignRow x = Given.digits(5);
        x.cursor(0, 1, 1);
        x.cursor(0, 1, 0);
        Given.typeByStep(x, 2, 0, 0, 'x');
        Given.typeByStep(x, 1, 1, 0, 'y');
        x.sync(0, 1);
        check.text("two signs more", x, 0, "yxa");
        check.due("set to the beginning", 0, x.at(0, 1));
        check.due("never set", 0, x.at(0, 0));
    }

    /** A cursor stays with its sign, when others come before and behind it. */
    static void itStaysWithItsSign(Check check) {
        SignRow x = Given.digits(3, 6, 9);
        x.cursor(0, 2, 2);
        Given.typeByStep(x, 1, 0, 0, 'x');
        check.due("one before it", 3, x.at(0, 2));
        Given.typeByStep(x, 1, 0, 3, 'y');
        check.text("one behind it", x, 0, "xabyc");
        check.due("one behind it", 3, x.at(0, 2));
        Given.typeByStep(x, 5, 4, 0, 'z');
        x.sync(0, 4);
        check.text("another's before it", x, 0, "xazbyc");
        check.due("another's before it", 4, x.at(0, 2));
    }

    /** "Behind a sign that it has": though that is erased. */
    static void itsSignMayBeErasedAndRaised(Check check) {
        SignRow x = Given.text("abc");
        x.cursor(0, 0, 2);
        x.erase(0, 1);
        check.due("its sign is erased", 1, x.at(0, 0));
        x.erase(0, 0);
        check.due("the one before it too", 0, x.at(0, 0));
        x.erase(0, 0);
        check.due("the one behind it too", 0, x.at(0, 0));
        x.undo(0);
        x.undo(0);
        check.due("the one before it is raised", 1, x.at(0, 0));
        x.undo(0);
        check.due("its sign is raised", 2, x.at(0, 0));
    }

    static void atTheEndOfAFullText(Check check) {
        SignRow x = Given.deeds(400);
        x.cursor(0, 3, 400);
        check.due("400", 400, x.at(0, 3));
    }

    /** "OUTSIDE". */
    static void cursorsOutside(Check check) {
        SignRow x = Given.text("abc");
        for (int k : new int[] {-1, 4, Given.LEAST, Given.GREATEST}) {
            check.due("k " + k, Given.OUTSIDE, x.at(0, k));
        }
    }

    /** "UNKNOWN", which is named before OUTSIDE. */
    static void noSuchReplica(Check check) {
        SignRow x = Given.textOfAll("abc");
        x.cursor(5, 3, 3);
        check.due("the last one", 3, x.at(5, 3));
        for (int r : Given.NO_REPLICAS) {
            check.due("replica " + r, Given.UNKNOWN, x.at(r, 0));
            check.due("k is wrong too", Given.UNKNOWN, x.at(r, 4));
        }
    }
}
