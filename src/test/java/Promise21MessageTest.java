/** Promise 21: message: of message i: the deed (what = 0), to whom (1). UNKNOWN, OUTSIDE. */
public final class Promise21MessageTest {
    public static void main(String[] args) {
        Check.runAll(Promise21MessageTest.class);
    }

    static void theDeedAndToWhom(Check check) {
        SignRow x = new SignRow();
        x.type(3, 0, 'a');
        x.erase(3, 0);
        int[] others = {0, 1, 2, 4, 5};
        for (int i = 0; i < 10; i++) {
            check.message("by numbers", x, i, i / 5, others[i % 5]);
        }
    }

    static void askingChangesNothing(Check check) {
        check.changesNothing("questions", () -> Given.text("ab"), x -> {
            check.message("the first", x, 0, 0, 1);
            check.message("the last", x, 9, 1, 5);
        });
    }

    /** "UNKNOWN", which is named before OUTSIDE. */
    static void noSuchMessage(Check check) {
        SignRow x = Given.text("a");
        for (int i : new int[] {-1, 5, 299, 300, Given.LEAST, Given.GREATEST}) {
            check.due("the deed", Given.UNKNOWN, x.message(i, 0));
            check.due("to whom", Given.UNKNOWN, x.message(i, 1));
            check.due("what is wrong too", Given.UNKNOWN, x.message(i, 2));
        }
        check.due("nothing is on the way", Given.UNKNOWN, new SignRow().message(0, 0));
    }

    /** "OUTSIDE". */
    static void nothingElseCanBeAsked(Check check) {
        SignRow x = Given.text("a");
        for (int what : new int[] {-1, 2, Given.LEAST, Given.GREATEST}) {
            check.due("of the first, what " + what, Given.OUTSIDE, x.message(0, what));
            check.due("of the last, what " + what, Given.OUTSIDE, x.message(4, what));
        }
    }

    static void theLastOfThreeHundred(Check check) {
        SignRow x = Given.messages(300);
        check.message("299", x, 299, 59, 5);
        check.due("300", Given.UNKNOWN, x.message(300, 0));
        x.deliver(0);
        check.message("one place up", x, 298, 59, 5);
        check.due("299 is no more", Given.UNKNOWN, x.message(299, 0));
    }
}
