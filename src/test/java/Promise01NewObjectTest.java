/** Promise 1: SignRow(): six empty texts, nothing on the way. */
public final class Promise01NewObjectTest {
    public static void main(String[] args) {
        Check.runAll(Promise01NewObjectTest.class);
    }

    /** "Six empty texts". */
    static void sixTextsAreEmpty(Check check) {
        SignRow x = new SignRow();
        for (int r = 0; r < 6; r++) {
            int whose = r;
            check.due("length", 0, x.length(r));
            check.due("signs, living or not", 0, x.about(r, r, 3));
            check.outOfBounds("sign", () -> x.sign(whose, 0));
        }
        check.due("a seventh", Given.UNKNOWN, x.length(6));
    }

    static void allSixTextsAreTheSame(Check check) {
        SignRow x = new SignRow();
        for (int r = 0; r < 6; r++) {
            for (int q = 0; q < 6; q++) {
                check.due("same(" + r + ", " + q + ")", 1, x.same(r, q));
            }
        }
    }

    /** "Nothing on the way". */
    static void nothingIsOnTheWay(Check check) {
        SignRow x = new SignRow();
        check.due("messages", 0, x.count(1));
        check.due("lost", 0, x.count(2));
        check.due("message", Given.UNKNOWN, x.message(0, 0));
        check.due("deliver", Given.UNKNOWN, x.deliver(0));
        check.due("lose", Given.UNKNOWN, x.lose(0));
        check.due("repeat", Given.UNKNOWN, x.repeat(0));
    }

    static void nothingWasDoneAndNothingWaits(Check check) {
        SignRow x = new SignRow();
        check.due("deeds", 0, x.count(0));
        check.due("deed", Given.UNKNOWN, x.deed(0, 0));
        for (int r = 0; r < 6; r++) {
            for (int q = 0; q < 6; q++) {
                check.due("done", 0, x.about(r, q, 0));
            }
            check.due("waiting", 0, x.about(r, 0, 1));
            check.due("to be undone", Given.STATE, x.undo(r));
            check.due("to be learnt", 0, x.sync(r, 5 - r));
        }
    }

    /** "The greatest TIME that the replica has (.. 0 at first)". */
    static void greatestTimeIsZero(Check check) {
        SignRow x = new SignRow();
        for (int r = 0; r < 6; r++) {
            check.due("time", 0, x.about(r, 0, 2));
        }
    }

    /** "Each replica has a STREAM (an int, at first its number)". */
    static void streamsAreTheReplicasNumbers(Check check) {
        SignRow x = new SignRow();
        for (int r = 0; r < 6; r++) {
            check.due("stream", r, x.stream(r, 99));
        }
    }

    /** "Four of each replica: each at the beginning, ..". */
    static void cursorsAreAtTheBeginning(Check check) {
        SignRow x = new SignRow();
        for (int r = 0; r < 6; r++) {
            for (int k = 0; k < 4; k++) {
                check.due("at", 0, x.at(r, k));
            }
        }
    }

    static void twoObjectsShareNothing(Check check) {
        check.changesNothing("calls on another object", SignRow::new, x -> {
            SignRow other = new SignRow();
            other.paste(0, 0, 20, 65);
            other.mark(0, 0, 19, 1, true);
            other.cursor(0, 0, 20);
            other.stream(1, 7);
            other.deliver(9);
        });
    }

    static void theFaceHasItsConstants(Check check) {
        check.due("NONE", -1, SignRow.NONE);
        check.due("UNKNOWN", -101, SignRow.UNKNOWN);
        check.due("OUTSIDE", -102, SignRow.OUTSIDE);
        check.due("STATE", -103, SignRow.STATE);
        check.due("ROOM", -104, SignRow.ROOM);
    }

    /** "An object is used for at most 512 calls". */
    static void the512thCallIsAnsweredAsTheFirst(Check check) {
        SignRow x = new SignRow();
        for (int call = 1; call <= 511; call++) {
            check.due("call " + call, call <= 400 ? call - 1 : Given.ROOM, x.type(3, Math.min(call - 1, 400), 65));
        }
        check.due("call 512", 400, x.length(3));
    }
}
