/** Promises 13 to 15: type, clearText, readTransfers. */
final class TextsTest {
    private static final Check check = new Check("texts");

    public static void main(String[] args) {
        types();
        textIsNoPartOfTheState();
        readsTransfers();
        makesAllOrNone();
        tellsFaults();
        tellsFaultsOfLongTexts();
        forgetsWhatWasCleared();
        tellsErrorsOfTransfers();
        check.end();
    }

    private static void types() {
        AllowanceBook book = new AllowanceBook();
        check.is("clearText() of the empty one", book.clearText(), 0);
        for (int i = 1; i <= 60; i++) {
            check.is("type", book.type((char) (i * 1000)), i);
        }
        check.is("type a 61st", book.type('0'), -3);
        check.is("count(14)", book.count(14), 60);
        check.is("clearText()", book.clearText(), 60);
        check.is("count(14) when empty", book.count(14), 0);
        check.is("type after it", book.type((char) 0), 1);
        check.is("states", book.count(13), 0);
    }

    private static void textIsNoPartOfTheState() {
        AllowanceBook book = new AllowanceBook();
        book.type('a');
        book.keep();
        book.addFirm();
        book.type('b');
        book.undo();
        check.is("count(14) after undo", book.count(14), 2);
        book.clearText();
        book.restore();
        check.is("count(14) after restore", book.count(14), 0);
    }

    private static AllowanceBook withHoldings() {
        AllowanceBook book = Check.withFirms(3);
        book.issue(0, 9999);
        book.pass(12);
        book.issue(1, 100);
        return book;
    }

    private static void readsTransfers() {
        AllowanceBook book = withHoldings();
        Check.write(book, "0>1:0*1");
        check.is("one", book.readTransfers(), 1);
        check.is("text stays", book.count(14), 7);
        check.is("again", book.readTransfers(), 1);
        check.is("holds(1, 0)", book.holds(1, 0), 2);
        Check.write(book, "0>1:0*9997;1>2:0*9999;1>2:1*100");
        check.is("three", book.readTransfers(), 3);
        check.is("holds(0, 0)", book.holds(0, 0), 0);
        check.is("holds(1, 0)", book.holds(1, 0), 0);
        check.is("holds(2, 0)", book.holds(2, 0), 9999);
        check.is("holds(2, 1)", book.holds(2, 1), 100);
        check.is("one act", book.undo(), 3);
        check.is("holds(0, 0) after undo", book.holds(0, 0), 9997);
        check.is("holds(1, 0) after undo", book.holds(1, 0), 2);
        check.is("holds(1, 1) after undo", book.holds(1, 1), 100);
        Check.write(book, "0>1:0*1;0>2:0*2;0>1:0*3;0>2:0*4;0>1:0*5;0>2:0*6;0>1:0*7");
        check.is("seven", book.readTransfers(), 7);
        check.is("holds(1, 0) of seven", book.holds(1, 0), 18);
        check.is("holds(2, 0) of seven", book.holds(2, 0), 12);
        Check.write(book, "0>1:0*1001;0>2:0*12;0>1:0*13;0>2:0*14;0>1:0*15;0>2:0*16");
        check.is("count(14)", book.count(14), 55);
        check.is("six", book.readTransfers(), 6);
        AllowanceBook late = Check.withFirms(2);
        for (int i = 0; i < 9; i++) {
            late.pass(24);
        }
        late.pass(12);
        late.issue(1, 45);
        Check.write(late, "1>0:19*45");
        check.is("vintage of two digits", late.readTransfers(), 1);
        check.is("holds(0, 19)", late.holds(0, 19), 45);
    }

    private static void makesAllOrNone() {
        AllowanceBook book = withHoldings();
        int states = book.count(13);
        Check.write(book, "0>1:0*50;1>2:0*51");
        check.is("the second has too much", book.readTransfers(), -4);
        check.is("holds(0, 0)", book.holds(0, 0), 9999);
        check.is("holds(1, 0)", book.holds(1, 0), 0);
        check.is("states", book.count(13), states);
        Check.write(book, "0>1:0*50;1>2:0*50");
        check.is("the second has enough by the first", book.readTransfers(), 2);
        check.is("holds(2, 0)", book.holds(2, 0), 50);
        Check.write(book, "0>1:0*50;");
        check.is("a fault", book.readTransfers(), -109);
        check.is("holds(1, 0)", book.holds(1, 0), 0);
    }

    private static void fault(String text, int due) {
        AllowanceBook book = withHoldings();
        int states = book.count(13);
        Check.write(book, text);
        check.is("readTransfers() of \"" + text + "\"", book.readTransfers(), -100 - due);
        check.is("states", book.count(13), states);
        check.is("holds(0, 0)", book.holds(0, 0), 9999);
    }

    private static void tellsFaults() {
        String whole = "0>1:12*3456";
        for (int length = 0; length <= 7; length++) {
            fault(whole.substring(0, length), length);
        }
        for (int at = 0; at < whole.length(); at++) {
            fault(whole.substring(0, at) + " " + whole.substring(at + 1), at);
            fault(whole.substring(0, at) + (char) 0x0661 + whole.substring(at + 1), at);
        }
        fault("0>1:;2*3456", 4);
        fault("0>1:1;*3456", 5);
        fault("0>1:12;3456", 6);
        fault("0>1:12*;456", 7);
        fault("0>1:12*3;56", 10);
        fault("0>1:12*34;6", 11);
        fault("0>1:12*345;", 11);
        fault("x", 0);
        fault("00", 1);
        fault("0>12", 3);
        fault("0>1:00*1", 5);
        fault("0>1:01*1", 5);
        fault("0>1:123*1", 6);
        fault("0>1:100*1", 6);
        fault("0>1:0*0", 6);
        fault("0>1:0*01", 6);
        fault("0>1:0*12345", 10);
        fault("0>1:0*1000;", 11);
        fault("0>1:0*1;;", 8);
        fault(";0>1:0*1", 0);
        fault("0>1:0*1,", 7);
        fault("0>1:0*1 ", 7);
        fault("0>1:0*1:", 7);
        fault("/>1:0*1", 0);
        fault(":>1:0*1", 0);
        fault("0>1:*1", 4);
        fault("0>1:0*;", 6);
        fault("0>1:-1*1", 4);
        fault("9>9:99*1;?", 9);
        fault("0>0:0*1;9>9:0*9999;0>1:0*", 25);
    }

    private static void tellsFaultsOfLongTexts() {
        String six = "0>1:0*1;0>1:0*1;0>1:0*1;0>1:0*1;0>1:0*1;0>1:0*1;";
        fault(six, 48);
        fault(six + "0>1:0*1;", 56);
        fault(six + "0>1:0*1;0>1:", 60);
        fault(six + "0>1:0*1;0>1x", 59);
        fault(six + "0>1:0*12345", 58);
        fault(six + "0>1:12*1234x", 59);
        fault(six + "0>1:12*1234;", 60);
        AllowanceBook book = withHoldings();
        book.pass(24);
        Check.write(book, six + "0>1:12*1234");
        check.is("59 characters", book.readTransfers(), -4);
        Check.write(book, "0>1:0*10;0>1:0*10;0>1:0*10;0>1:0*10;0>1:0*10;0>1:0*10;0>1:0*1");
        check.is("count(14)", book.count(14), 60);
        check.is("60 characters", book.readTransfers(), -160);
    }

    /** A shorter text in place of a longer one ends where it ends. */
    private static void forgetsWhatWasCleared() {
        String whole = "0>1:0*1234;0>1:0*5";
        int[] tonnes = {1, 12, 123, 1234};
        for (int length = 0; length < whole.length(); length++) {
            AllowanceBook book = withHoldings();
            Check.write(book, whole);
            Check.write(book, whole.substring(0, length));
            boolean isWhole = length >= 7 && length <= 10;
            check.is("readTransfers() of " + length + " characters", book.readTransfers(), isWhole ? 1 : -100 - length);
            check.is("holds(1, 0)", book.holds(1, 0), isWhole ? tonnes[length - 7] : 0);
        }
    }

    private static void tellsErrorsOfTransfers() {
        AllowanceBook book = withHoldings();
        String[] texts = {"3>0:0*1", "0>3:0*1", "9>9:0*1", "0>1:20*1", "0>0:99*1", "0>0:0*1", "0>1:1*1", "1>0:1*101",
            "0>1:0*1;0>0:0*1", "0>1:0*1;0>8:0*1", "0>0:0*1;0>8:0*1", "0>1:2*1;0>0:0*1"};
        int[] due = {-1, -1, -1, -1, -1, -2, -4, -4, -2, -1, -2, -4};
        for (int i = 0; i < texts.length; i++) {
            Check.write(book, texts[i]);
            check.is("readTransfers() of " + texts[i], book.readTransfers(), due[i]);
        }
        check.is("holds(0, 0)", book.holds(0, 0), 9999);
        check.is("holds(1, 0)", book.holds(1, 0), 0);
    }
}
