import java.util.function.Supplier;
import java.util.function.ToIntFunction;

/** Compares answers with those that are due, and ends a test with exit code 1 if one was not. */
final class Check {
    private final String promise;
    private String sentence = "";
    private int asked = 0;
    private int wrong = 0;

    Check(String promise) {
        this.promise = promise;
    }

    /** Names the sentence of the document that the answers from here on are due by. */
    void sentence(String head, String words) {
        sentence = " (" + head + ": " + words + ")";
        if (!Document.says(head, words)) {
            wrong++;
            System.out.println(promise + ": the document does not say this" + sentence);
        }
    }

    void is(String call, long answer, long due) {
        asked++;
        if (answer != due) {
            wrong++;
            System.out.println(promise + ": " + call + " answered " + answer + ", due is " + due + sentence);
        }
    }

    /** A call that is refused: its answer is due, and all that is told then and later is told as if it never was. */
    void refused(String call, Supplier<AllowanceBook> before, ToIntFunction<AllowanceBook> refused, int due) {
        is(call, refused.applyAsInt(before.get()), due);
        changesNothing(call, before, refused);
    }

    /** A call after which all is told, then and later, as if it never was. */
    void changesNothing(String call, Supplier<AllowanceBook> before, ToIntFunction<AllowanceBook> made) {
        Supplier<AllowanceBook> after = () -> {
            AllowanceBook book = before.get();
            made.applyAsInt(book);
            return book;
        };
        is("what " + call + " changes", Told.differences(before, after, call), 0);
    }

    void end() {
        System.out.println(promise + ": " + asked + " answers, " + wrong + " wrong");
        if (wrong != 0) {
            System.exit(1);
        }
    }

    /** A registry with some firms that hold nothing. */
    static AllowanceBook withFirms(int number) {
        AllowanceBook book = new AllowanceBook();
        for (int i = 0; i < number; i++) {
            book.addFirm();
        }
        return book;
    }

    /** A registry with some firms that hold nothing, in a month. */
    static AllowanceBook inMonth(int firms, int month) {
        AllowanceBook book = withFirms(firms);
        passTo(book, month);
        return book;
    }

    /** Lets months pass until it is this one. */
    static void passTo(AllowanceBook book, int month) {
        int left = month - book.count(0);
        for (; left > 24; left -= 24) {
            book.pass(24);
        }
        if (left > 0) {
            book.pass(left);
        }
    }

    /** A registry in the month 12 with one firm, whose base is these tonnes, all of them due. */
    static AllowanceBook withBase(int tonnes) {
        AllowanceBook book = withFirms(1);
        book.report(0, tonnes);
        book.verify(0);
        book.pass(12);
        return book;
    }

    /** Types a text in place of the one that was. */
    static void write(AllowanceBook book, String text) {
        book.clearText();
        for (int i = 0; i < text.length(); i++) {
            book.type(text.charAt(i));
        }
    }
}
