/** Compares answers with those that are due, and ends a test with exit code 1 if one was not. */
final class Check {
    private final String promise;
    private int asked = 0;
    private int wrong = 0;

    Check(String promise) {
        this.promise = promise;
    }

    void is(String call, long answer, long due) {
        asked++;
        if (answer != due) {
            wrong++;
            System.out.println(promise + ": " + call + " answered " + answer + ", due is " + due);
        }
    }

    void end() {
        System.out.println(promise + ": " + asked + " answers, " + wrong + " wrong");
        if (wrong != 0) {
            System.exit(1);
        }
    }

    /** A registry with some firms that hold nothing. */
    static AllowanceBook withFirms(int number) {
        AllowanceBook book = new AllowanceBook();
        for (int i = 0; i < number; i++) {
            book.addFirm();
        }
        return book;
    }

    /** Types a text in place of the one that was. */
    static void write(AllowanceBook book, String text) {
        book.clearText();
        for (int i = 0; i < text.length(); i++) {
            book.type(text.charAt(i));
        }
    }
}
