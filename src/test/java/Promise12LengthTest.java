/** Promise 12: length: how many signs the TEXT has. UNKNOWN. */
public final class Promise12LengthTest {
    public static void main(String[] args) {
        Check.runAll(Promise12LengthTest.class);
    }

    static void fromNoneToFourHundred(Check check) {
        check.due("none", 0, new SignRow().length(0));
        check.due("one", 1, Given.text("a").length(0));
        check.due("400", 400, Given.deeds(400).length(0));
    }

    /** "A replica's TEXT are the signs that it has .. that LIVE". */
    static void erasedSignsAreNotCounted(Check check) {
        SignRow x = Given.text("abc");
        x.erase(0, 1);
        check.due("two live", 2, x.length(0));
        x.erase(0, 1);
        x.erase(0, 0);
        check.due("none lives", 0, x.length(0));
        x.undo(0);
        check.due("one is raised", 1, x.length(0));
    }

    /** "That it has": not those of the others, nor those that wait. */
    static void whatItHasNotIsNotCounted(Check check) {
        SignRow x = Given.text("ab");
        check.due("another's", 0, x.length(5));
        x.deliver(5);
        check.due("one that waits", 0, x.length(1));
        x.deliver(0);
        check.due("both", 2, x.length(1));
    }

    /** "UNKNOWN". */
    static void noSuchReplica(Check check) {
        SignRow x = Given.textOfAll("ab");
        check.due("the first", 2, x.length(0));
        check.due("the last", 2, x.length(5));
        for (int r : Given.NO_REPLICAS) {
            check.due("length(" + r + ")", Given.UNKNOWN, x.length(r));
        }
    }
}
