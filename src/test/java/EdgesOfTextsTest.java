/** The sentences on texts (TEXTS in 'Terms', promises 13 to 15) that name a boundary case, a test for each. */
final class EdgesOfTextsTest {
    private static final Check check = new Check("edges of the texts");

    public static void main(String[] args) {
        textAtMost();
        textIsEmptyAtFirst();
        anyCharacter();
        typeIsFull();
        lengthThatItHad();
        oneOrMoreTransfers();
        semicolonBetweenTwo();
        firmsOfOneDigit();
        arrow();
        colon();
        vintageOfOneOrTwoDigits();
        star();
        tonnesOfOneToFourDigits();
        vintageHasNoZeroInFront();
        tonnesDoNotBeginWithZero();
        firstCharacterThatIsNotAllowed();
        lengthIfItEndsTooEarly();
        emptyTextEndsTooEarly();
        clearedTextIsGone();
        textStays();
        allOrNone();
        oneAct();
        howManyThereAre();
        faultBeforeErrors();
        firstTransferWithAnError();
        whenItsTurnComes();
        check.end();
    }

    /** Three firms in the month 239; the firm 0 holds 9999 of the vintage 19, the firm 1 holds 100. */
    private static AllowanceBook late() {
        AllowanceBook book = Check.inMonth(3, 239);
        book.issue(0, 9999);
        book.issue(1, 100);
        return book;
    }

    private static void reads(String text, int due) {
        AllowanceBook book = late();
        Check.write(book, text);
        check.is("readTransfers() of \"" + text + "\"", book.readTransfers(), due);
    }

    private static void fault(String text, int at) {
        reads(text, -100 - at);
    }

    // ---- the text

    private static void textAtMost() {
        check.sentence("Terms", "There is a text of at most 60 characters");
        AllowanceBook book = late();
        String most = "0>1:19*11;0>1:19*11;0>1:19*11;0>1:19*11;0>1:19*11;0>1:19*111";
        check.is("its characters", most.length(), 60);
        Check.write(book, most);
        check.is("count(14)", book.count(14), 60);
        check.is("readTransfers() of 60 characters", book.readTransfers(), 6);
        check.is("type(';') for a 61st", book.type(';'), -3);
        check.is("count(14) after it", book.count(14), 60);
        check.is("readTransfers() after it", book.readTransfers(), 6);
        check.is("holds(1, 19)", book.holds(1, 19), 100 + 2 * (5 * 11 + 111));
    }

    private static void textIsEmptyAtFirst() {
        check.sentence("Terms", "empty at first. A text of transfers");
        check.is("count(14) of a new one", new AllowanceBook().count(14), 0);
        check.is("clearText() of a new one", new AllowanceBook().clearText(), 0);
        check.is("readTransfers() of a new one", new AllowanceBook().readTransfers(), -100);
        check.is("type('0') of a new one", new AllowanceBook().type('0'), 1);
    }

    private static void anyCharacter() {
        check.sentence("Promise 13", "- `character`: any character");
        char[] characters = {0, 1, '\n', ' ', '0', 'z', 127, 128, 255, 256, 0xD800, 0xDFFF, 0xFFFE, 0xFFFF};
        for (char character : characters) {
            AllowanceBook book = new AllowanceBook();
            check.is("type((char) " + (int) character + ")", book.type(character), 1);
            check.is("type((char) " + (int) character + ") again", book.type(character), 2);
            check.is("count(14)", book.count(14), 2);
        }
    }

    private static void typeIsFull() {
        check.sentence("Promise 13", "FULL if it has 60 characters.");
        AllowanceBook book = new AllowanceBook();
        for (int length = 1; length <= 60; length++) {
            check.is("type", book.type('0'), length);
        }
        check.is("type for a 61st", book.type('0'), -3);
        check.is("type for a 61st again", book.type(';'), -3);
        book.clearText();
        check.is("type after clearText()", book.type('0'), 1);
    }

    private static void lengthThatItHad() {
        check.sentence("Promise 14", "Returns the length that it had.");
        int[] lengths = {0, 1, 59, 60};
        for (int length : lengths) {
            AllowanceBook book = new AllowanceBook();
            Check.write(book, "0".repeat(length));
            check.is("clearText() of " + length, book.clearText(), length);
            check.is("clearText() again", book.clearText(), 0);
            check.is("count(14)", book.count(14), 0);
        }
    }

    // ---- what a text of transfers is

    private static void oneOrMoreTransfers() {
        check.sentence("Terms", "A text of transfers is one or more transfers");
        String one = "0>1:19*1";
        StringBuilder text = new StringBuilder();
        reads("", -100);
        for (int number = 1; number <= 6; number++) {
            text.append(number == 1 ? "" : ";").append(one);
            reads(text.toString(), number);
        }
        AllowanceBook first = Check.withFirms(2);
        first.issue(0, 9999);
        Check.write(first, "0>1:0*1;0>1:0*1;0>1:0*1;0>1:0*1;0>1:0*1;0>1:0*1;0>1:0*1");
        check.is("readTransfers() of seven in 55 characters", first.readTransfers(), 7);
        Check.write(first, "0>1:0*11;0>1:0*11;0>1:0*11;0>1:0*11;0>1:0*11;0>1:0*1;0>1:0*1");
        check.is("count(14)", first.count(14), 60);
        check.is("readTransfers() of seven in 60 characters", first.readTransfers(), 7);
        check.is("holds(1, 0)", first.holds(1, 0), 7 + 57);
        Check.write(first, "0>1:0*1;0>1:0*1;0>1:0*1;0>1:0*1;0>1:0*1;0>1:0*1;0>1:0*1;0>1:");
        check.is("readTransfers() of what an eighth begins in", first.readTransfers(), -160);
        Check.write(first, "0>1:0*1;0>1:0*1;0>1:0*1;0>1:0*1;0>1:0*1;0>1:0*1;0>1:0*1;x");
        check.is("readTransfers() with a fault in an eighth", first.readTransfers(), -156);
    }

    private static void semicolonBetweenTwo() {
        check.sentence("Terms", "transfers with \";\" between two");
        reads("0>1:19*1;1>0:19*1", 2);
        fault("0>1:19*1;", 9);
        fault(";0>1:19*1", 0);
        fault("0>1:19*1;;1>0:19*1", 9);
        fault("0>1:19*1 1>0:19*1", 8);
        fault("0>1:19*1:1>0:19*1", 8);
        fault("0>1:19*1<1>0:19*1", 8);
        fault("0>1:19*11>0:19*1", 9);
        fault("0>1:19*11111>0:19*1", 11);
    }

    private static void firmsOfOneDigit() {
        check.sentence("Terms", "A transfer is a firm (one digit), \">\", a firm (one digit)");
        char[] signs = {'/', '0', '1', '2', '3', '8', '9', ':'};
        int[] dueFirst = {-100, -2, 1, -4, -1, -1, -1, -100};
        int[] dueSecond = {-102, 1, -2, 1, -1, -1, -1, -102};
        for (int i = 0; i < signs.length; i++) {
            reads(signs[i] + ">0:19*7", dueFirst[i]);
            reads("1>" + signs[i] + ":19*7", dueSecond[i]);
        }
        fault("00>1:19*7", 1);
        fault("0>01:19*7", 3);
        fault("10>1:19*7", 1);
        fault(">1:19*7", 0);
        fault("0>:19*7", 2);
        fault("-1>1:19*7", 0);
    }

    private static void arrow() {
        check.sentence("Terms", "a firm (one digit), \">\"");
        reads("0>1:19*7", 1);
        char[] signs = {'=', '?', '<', ':', ' ', '0', 0x013E};
        for (char sign : signs) {
            fault("0" + sign + "1:19*7", 1);
        }
    }

    private static void colon() {
        check.sentence("Terms", "a firm (one digit), \":\", a vintage");
        char[] signs = {'9', ';', ' ', '>', '*', 0x013A};
        for (char sign : signs) {
            fault("0>1" + sign + "19*7", 3);
        }
    }

    private static void vintageOfOneOrTwoDigits() {
        check.sentence("Terms", "a vintage (one or two digits)");
        fault("0>1:*7", 4);
        reads("0>1:1*7", -4);
        reads("0>1:9*7", -4);
        reads("0>1:10*7", -4);
        reads("0>1:19*7", 1);
        reads("0>1:20*7", -1);
        reads("0>1:99*7", -1);
        fault("0>1:100*7", 6);
        fault("0>1:199*7", 6);
        fault("0>1:/*7", 4);
        fault("0>1::*7", 4);
        fault("0>1:1/*7", 5);
        fault("0>1:1:*7", 5);
        fault("0>1:-1*7", 4);
    }

    private static void star() {
        check.sentence("Terms", "\"*\", and tonnes");
        char[] signs = {')', '+', ';', ' ', 0x012A};
        for (char sign : signs) {
            fault("0>1:19" + sign + "7", 6);
            fault("0>1:9" + sign + "7", 5);
            fault("0>1:0" + sign + "7", 5);
        }
        fault("0>1:19**7", 7);
    }

    private static void tonnesOfOneToFourDigits() {
        check.sentence("Terms", "tonnes (one to four digits)");
        fault("0>1:19*", 7);
        reads("0>1:19*1", 1);
        reads("0>1:19*12", 1);
        reads("0>1:19*123", 1);
        reads("0>1:19*1234", 1);
        reads("0>1:19*9999", 1);
        fault("0>1:19*12345", 11);
        fault("0>1:19*10000", 11);
        fault("0>1:19*/", 7);
        fault("0>1:19*:", 7);
        fault("0>1:19*;", 7);
        fault("0>1:19*123/", 10);
        fault("0>1:19*123:", 10);
        AllowanceBook book = late();
        Check.write(book, "0>2:19*1;0>2:19*20;0>2:19*300;0>2:19*4005");
        check.is("readTransfers()", book.readTransfers(), 4);
        check.is("holds(2, 19)", book.holds(2, 19), 4326);
    }

    private static void vintageHasNoZeroInFront() {
        check.sentence("Terms", "a vintage has no zero in front (unless it is the single digit 0)");
        reads("0>1:0*7", -4);
        reads("0>1:10*7", -4);
        fault("0>1:00*7", 5);
        fault("0>1:01*7", 5);
        fault("0>1:09*7", 5);
        fault("0>1:019*7", 5);
        AllowanceBook book = Check.withFirms(2);
        book.issue(0, 10);
        Check.write(book, "0>1:0*7");
        check.is("readTransfers() of the vintage 0", book.readTransfers(), 1);
        check.is("holds(1, 0)", book.holds(1, 0), 7);
    }

    private static void tonnesDoNotBeginWithZero() {
        check.sentence("Terms", "tonnes cannot begin with 0");
        fault("0>1:19*0", 7);
        fault("0>1:19*01", 7);
        fault("0>1:19*0001", 7);
        reads("0>1:19*1", 1);
        reads("0>1:19*10", 1);
        reads("0>1:19*100", 1);
        reads("0>1:19*1000", 1);
    }

    private static void firstCharacterThatIsNotAllowed() {
        check.sentence("Terms",
            "The fault of the text is the index, from 0, of the first character that is not allowed at its "
            + "place");
        String whole = "0>1:19*1234;1>0:12*5";
        for (int at = 0; at < whole.length(); at++) {
            fault(whole.substring(0, at) + "x" + whole.substring(at + 1), at);
            fault(whole.substring(0, at) + "xx", at);
            fault(whole.substring(0, at) + (char) (whole.charAt(at) + 256), at);
        }
        fault("x".repeat(60), 0);
        fault("0>1:19*11;0>1:19*11;0>1:19*11;0>1:19*11;0>1:19*11;0>1:19*11x", 59);
    }

    private static void lengthIfItEndsTooEarly() {
        check.sentence("Terms", "or the length of the text if it ends too early");
        String whole = "0>1:19*1;1>0:19*1";
        for (int length = 0; length <= whole.length(); length++) {
            boolean isWhole = length == 8 || length == 17;
            reads(whole.substring(0, length), isWhole ? (length + 1) / 9 : -100 - length);
        }
        fault("0>1:19*1111;0>1:19*1111;0>1:19*1111;0>1:19*1111;0>1:19*1111;", 60);
    }

    private static void emptyTextEndsTooEarly() {
        check.sentence("Terms", "if it ends too early (the empty text does)");
        AllowanceBook book = late();
        check.is("readTransfers() of what was never typed", book.readTransfers(), -100);
        Check.write(book, "0>1:19*1");
        check.is("readTransfers()", book.readTransfers(), 1);
        book.clearText();
        check.is("readTransfers() of what was cleared", book.readTransfers(), -100);
    }

    private static void clearedTextIsGone() {
        check.sentence("Promise 14", "Empties the text.");
        AllowanceBook book = late();
        Check.write(book, "0>1:19*1234");
        Check.write(book, "0>1:19*5");
        check.is("readTransfers()", book.readTransfers(), 1);
        check.is("holds(1, 19)", book.holds(1, 19), 105);
        String whole = "0>1:19*1;0>1:19*1";
        for (int length = 0; length < whole.length(); length++) {
            AllowanceBook shorter = late();
            Check.write(shorter, whole);
            Check.write(shorter, whole.substring(0, length));
            check.is("readTransfers() of " + length, shorter.readTransfers(), length == 8 ? 1 : -100 - length);
        }
    }

    // ---- readTransfers

    private static void textStays() {
        check.sentence("Promise 15", "Makes the transfers of the text, which stays");
        AllowanceBook book = late();
        Check.write(book, "0>1:19*5000");
        check.is("readTransfers()", book.readTransfers(), 1);
        check.is("count(14)", book.count(14), 11);
        check.is("readTransfers() again", book.readTransfers(), -4);
        check.is("count(14) after an error", book.count(14), 11);
        check.is("type('x')", book.type('x'), 12);
        check.is("readTransfers() with a fault", book.readTransfers(), -111);
        check.is("count(14) after a fault", book.count(14), 12);
    }

    private static void allOrNone() {
        check.sentence("Promise 15", "one after the other; all of them, or none");
        String[] texts = {"0>2:19*50;1>2:19*100", "0>2:19*50;1>2:19*101", "1>2:19*101;0>2:19*50", "0>2:19*50;1>1:19*1",
            "0>2:19*50;1>3:19*1", "0>2:19*50;1>2:19*0"};
        int[] answers = {2, -4, -4, -2, -1, -117};
        for (int i = 0; i < texts.length; i++) {
            AllowanceBook book = late();
            Check.write(book, texts[i]);
            check.is("readTransfers() of " + texts[i], book.readTransfers(), answers[i]);
            check.is("holds(0, 19)", book.holds(0, 19), i == 0 ? 9949 : 9999);
            check.is("holds(1, 19)", book.holds(1, 19), i == 0 ? 0 : 100);
            check.is("holds(2, 19)", book.holds(2, 19), i == 0 ? 150 : 0);
        }
    }

    private static void oneAct() {
        check.sentence("Promise 15", "This is one act.");
        AllowanceBook book = Check.withFirms(2);
        book.issue(0, 100);
        Check.write(book, "0>1:0*1;0>1:0*2;0>1:0*3");
        check.is("readTransfers()", book.readTransfers(), 3);
        check.is("count(13)", book.count(13), 4);
        check.is("undo()", book.undo(), 3);
        check.is("holds(0, 0) after undo", book.holds(0, 0), 100);
        check.is("holds(1, 0) after undo", book.holds(1, 0), 0);
        check.is("undo() of the issue", book.undo(), 2);
        check.is("holds(0, 0) after it", book.holds(0, 0), 0);
    }

    private static void howManyThereAre() {
        check.sentence("Promise 15", "Returns how many there are");
        reads("0>1:19*9999", 1);
        reads("0>1:19*1;0>1:19*1", 2);
        reads("0>1:19*1;1>0:19*1;0>1:19*1", 3);
    }

    private static void faultBeforeErrors() {
        check.sentence("Promise 15",
            "-100 minus the fault of the text if it has one (which is an error); otherwise, of the first "
            + "transfer");
        fault("9>9:99*1;", 9);
        fault("0>0:19*1;0>1:19*9999;x", 21);
        fault("3>0:19*1x", 8);
        reads("9>9:99*1", -1);
    }

    private static void firstTransferWithAnError() {
        check.sentence("Promise 15",
            "of the first transfer for which it is so when its turn comes, the error that transfer() "
            + "returns");
        reads("0>1:19*1;0>0:19*1;3>0:19*1", -2);
        reads("0>1:19*1;3>0:19*1;0>0:19*1", -1);
        reads("0>1:18*1;3>0:19*1;0>0:19*1", -4);
        reads("3>3:19*1", -1);
        reads("0>3:20*1", -1);
        reads("0>0:20*1", -1);
        reads("0>0:18*1", -2);
        reads("0>1:18*1", -4);
        reads("7>0:19*1", -1);
        reads("9>0:19*1", -1);
    }

    private static void whenItsTurnComes() {
        check.sentence("Promise 15", "when its turn comes");
        reads("2>1:19*50;0>2:19*50", -4);
        reads("0>2:19*50;2>1:19*50", 2);
        reads("0>2:19*50;2>1:19*51", -4);
        reads("1>0:19*60;1>0:19*40", 2);
        reads("1>0:19*60;1>0:19*41", -4);
        reads("1>0:19*100;0>2:19*9999;0>2:19*100", 3);
        reads("1>0:19*100;0>2:19*9999;0>2:19*101", -4);
    }
}
