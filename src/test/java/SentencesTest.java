import java.util.function.ToIntFunction;

/** The sentences of the document that name no boundary case, a test for each; EdgesOf*Test have the others. */
final class SentencesTest {
    private static final Check check = new Check("sentences");

    public static void main(String[] args) {
        eachIsANumberOfTonnes();
        verifiedWhenTheFirmLetsThemBe();
        eachFirmHasItsOwn();
        threeWays();
        badValue();
        full();
        notPossible();
        noSuchThing();
        setsASetting();
        issuesOfThePresentYear();
        issuesOffsets();
        transfersAllowances();
        transfersOffsets();
        cancelsWhatItHolds();
        reportsWhatAFirmEmitted();
        verifiesWhatAFirmHasReported();
        surrendersAndReturnsWhatIsDue();
        typesBehindTheText();
        undoRemovesAndRestores();
        tellsAllAllowances();
        tellsWhatIsReportedAndVerified();
        tellsBaseAndDue();
        tellsWhatIsSurrendered();
        tellsFines();
        tellsHoldings();
        tellsOffsets();
        tellsVintagesAndGrades();
        tellsHolders();
        tellsTheTime();
        tellsSettings();
        tellsSums();
        tellsHistoryAndText();
        check.end();
    }

    private static void eachIs(String call, ToIntFunction<AllowanceBook> told, AllowanceBook[] books, int... due) {
        for (int i = 0; i < books.length; i++) {
            check.is(call + " of the book " + i, told.applyAsInt(books[i]), due[i]);
        }
    }

    // ---- terms

    private static void eachIsANumberOfTonnes() {
        check.sentence("Terms", "Each of these is a number of tonnes.");
        AllowanceBook book = Check.withFirms(2);
        for (int year = 0; year < 3; year++) {
            book.issue(0, 10 + year);
            book.issue(1, 20 + year);
            book.issueOffsets(0, year, 30 + year);
            book.issueOffsets(1, year, 40 + year);
            book.pass(12);
        }
        for (int i = 0; i < 3; i++) {
            check.is("holds(0, " + i + ")", book.holds(0, i), 10 + i);
            check.is("holds(1, " + i + ")", book.holds(1, i), 20 + i);
            check.is("offsets(0, " + i + ", 0)", book.offsets(0, i, 0), 30 + i);
            check.is("offsets(1, " + i + ", 0)", book.offsets(1, i, 0), 40 + i);
        }
        check.is("holds(0, 3)", book.holds(0, 3), 0);
    }

    private static void verifiedWhenTheFirmLetsThemBe() {
        check.sentence("Terms", "they are verified when the firm lets them be");
        AllowanceBook book = Check.withFirms(2);
        book.report(0, 30);
        book.report(1, 40);
        book.pass(11);
        check.is("verified of the firm 0 in the month 11", book.firm(0, 5), 0);
        book.verify(0);
        check.is("verified of the firm 0", book.firm(0, 5), 30);
        check.is("not verified of the firm 0", book.firm(0, 4), 0);
        check.is("verified of the firm 1", book.firm(1, 5), 0);
        check.is("not verified of the firm 1", book.firm(1, 4), 40);
    }

    private static void eachFirmHasItsOwn() {
        check.sentence("Terms",
            "A firm has a base, an amount that is due, and for each grade the offsets that it has used");
        AllowanceBook book = Check.withFirms(8);
        for (int firm = 0; firm < 8; firm++) {
            book.report(firm, 100 + firm);
            book.verify(firm);
        }
        book.pass(12);
        for (int firm = 0; firm < 8; firm++) {
            book.issueOffsets(firm, firm % 3, 50);
            book.surrender(firm, 1 + firm % 5, 2);
        }
        for (int firm = 0; firm < 8; firm++) {
            check.is("firm(" + firm + ", 6)", book.firm(firm, 6), 100 + firm);
            check.is("firm(" + firm + ", 7)", book.firm(firm, 7), 99 + firm - firm % 5);
            for (int grade = 0; grade < 3; grade++) {
                int due = grade == firm % 3 ? 1 + firm % 5 : 0;
                check.is("offsets(" + firm + ", " + grade + ", 2)", book.offsets(firm, grade, 2), due);
            }
        }
    }

    /** Three books that are the same, in which the firm 0 surrenders 25 tonnes by the ways 0, 1 and 2. */
    private static AllowanceBook[] byThreeWays() {
        AllowanceBook[] books = new AllowanceBook[3];
        for (int way = 0; way <= 2; way++) {
            books[way] = Check.withBase(100);
            books[way].issue(0, 20);
            books[way].pass(12);
            books[way].report(0, 100);
            books[way].verify(0);
            books[way].pass(12);
            books[way].issue(0, 20);
            for (int grade = 0; grade <= 2; grade++) {
                books[way].issueOffsets(0, grade, 9);
            }
            books[way].surrender(0, 25, way);
        }
        return books;
    }

    private static void threeWays() {
        check.sentence("Terms", "There are three ways to surrender some tonnes.");
        AllowanceBook[] books = byThreeWays();
        eachIs("holds(0, 1)", book -> book.holds(0, 1), books, 0, 15, 18);
        eachIs("holds(0, 3)", book -> book.holds(0, 3), books, 15, 0, 20);
        eachIs("offsets(0, 0, 0)", book -> book.offsets(0, 0, 0), books, 9, 9, 0);
        eachIs("offsets(0, 1, 0)", book -> book.offsets(0, 1, 0), books, 9, 9, 0);
        eachIs("offsets(0, 2, 0)", book -> book.offsets(0, 2, 0), books, 9, 9, 4);
        eachIs("firm(0, 7)", book -> book.firm(0, 7), books, 175, 175, 175);
    }

    private static void badValue() {
        check.sentence("Terms", "`BAD_VALUE = -2`: Another argument is out of range.");
        AllowanceBook book = Books.rich();
        check.is("set(5, 1)", book.set(5, 1), AllowanceBook.BAD_VALUE);
        check.is("issue(0, 0)", book.issue(0, 0), AllowanceBook.BAD_VALUE);
        check.is("issueOffsets(0, 0, 0)", book.issueOffsets(0, 0, 0), AllowanceBook.BAD_VALUE);
        check.is("transfer(0, 1, 0, 0)", book.transfer(0, 1, 0, 0), AllowanceBook.BAD_VALUE);
        check.is("transferOffsets(0, 1, 0, 0)", book.transferOffsets(0, 1, 0, 0), AllowanceBook.BAD_VALUE);
        check.is("cancel(0, 0, 0)", book.cancel(0, 0, 0), AllowanceBook.BAD_VALUE);
        check.is("report(0, 0)", book.report(0, 0), AllowanceBook.BAD_VALUE);
        check.is("surrender(0, 1, 3)", book.surrender(0, 1, 3), AllowanceBook.BAD_VALUE);
        check.is("pass(0)", book.pass(0), AllowanceBook.BAD_VALUE);
        check.is("firm(0, 11)", book.firm(0, 11), AllowanceBook.BAD_VALUE);
        check.is("offsets(0, 0, 3)", book.offsets(0, 0, 3), AllowanceBook.BAD_VALUE);
        check.is("vintage(0, 7)", book.vintage(0, 7), AllowanceBook.BAD_VALUE);
        check.is("grade(0, 3)", book.grade(0, 3), AllowanceBook.BAD_VALUE);
        check.is("holder(0, -1)", book.holder(0, -1), AllowanceBook.BAD_VALUE);
        check.is("plan(0, 1, 0, 6)", book.plan(0, 1, 0, 6), AllowanceBook.BAD_VALUE);
        check.is("count(15)", book.count(15), AllowanceBook.BAD_VALUE);
    }

    private static void full() {
        check.sentence("Terms", "`FULL = -3`: There is no more room.");
        AllowanceBook book = Books.full();
        check.is("addFirm()", book.addFirm(), AllowanceBook.FULL);
        check.is("report(0, 1)", book.report(0, 1), AllowanceBook.FULL);
        check.is("type('0')", book.type('0'), AllowanceBook.FULL);
    }

    private static void notPossible() {
        check.sentence("Terms", "`NOT_POSSIBLE = -4`: This is not possible.");
        AllowanceBook book = Books.late();
        check.is("transfer(1, 0, 19, 1)", book.transfer(1, 0, 19, 1), AllowanceBook.NOT_POSSIBLE);
        check.is("transferOffsets(1, 0, 1, 1)", book.transferOffsets(1, 0, 1, 1), AllowanceBook.NOT_POSSIBLE);
        check.is("cancel(1, 19, 1)", book.cancel(1, 19, 1), AllowanceBook.NOT_POSSIBLE);
        check.is("surrender(1, 1, 0)", book.surrender(1, 1, 0), AllowanceBook.NOT_POSSIBLE);
        check.is("pass(2)", book.pass(2), AllowanceBook.NOT_POSSIBLE);
        check.is("plan(1, 1, 0, 0)", book.plan(1, 1, 0, 0), AllowanceBook.NOT_POSSIBLE);
        Check.write(book, "1>0:19*1");
        check.is("readTransfers()", book.readTransfers(), AllowanceBook.NOT_POSSIBLE);
    }

    private static void noSuchThing() {
        check.sentence("Terms", "`NONE = -5`: There is no such thing; not an error.");
        AllowanceBook book = Check.withFirms(1);
        check.is("set(3, 3)", book.set(3, 3), AllowanceBook.NONE);
        check.is("verify(0)", book.verify(0), AllowanceBook.NONE);
        check.is("restore()", book.restore(), AllowanceBook.NONE);
        check.is("firm(0, 2)", book.firm(0, 2), AllowanceBook.NONE);
        check.is("firm(0, 3)", book.firm(0, 3), AllowanceBook.NONE);
        check.is("vintage(0, 6)", book.vintage(0, 6), AllowanceBook.NONE);
        check.is("holder(0, 0)", book.holder(0, 0), AllowanceBook.NONE);
        book.undo();
        check.is("undo()", book.undo(), AllowanceBook.NONE);
        AllowanceBook based = Check.withBase(100);
        based.issueOffsets(0, 0, 1);
        check.is("plan(0, 1, 2, 5)", based.plan(0, 1, 2, 5), AllowanceBook.NONE);
    }

    // ---- acts

    private static void setsASetting() {
        check.sentence("Promise 3", "Sets a setting.");
        AllowanceBook book = Check.withBase(100);
        book.issue(0, 7);
        for (int grade = 0; grade <= 2; grade++) {
            book.set(grade, 60 + grade);
        }
        for (int grade = 0; grade <= 2; grade++) {
            check.is("offsets(0, " + grade + ", 1)", book.offsets(0, grade, 1), 60 + grade);
        }
        book.set(4, 3);
        check.is("pass(4) with the fine 3", book.pass(4), 300);
        book.set(3, 2);
        check.is("vintage(1, 6) with the bank 2", book.vintage(1, 6), 48 - 16);
        book.pass(24);
        book.pass(7);
        check.is("holds(0, 1) in the month 47", book.holds(0, 1), 7);
        book.pass(1);
        check.is("holds(0, 1) in the month 48", book.holds(0, 1), 0);
    }

    private static void issuesOfThePresentYear() {
        check.sentence("Promise 4", "Issues allowances of the present year to a firm.");
        for (int year = 0; year < 20; year++) {
            AllowanceBook book = Check.inMonth(2, 12 * year + year % 12);
            check.is("issue(1, 6) in the year " + year, book.issue(1, 6), 6);
            for (int vintage = 0; vintage < 20; vintage++) {
                int due = vintage == year ? 6 : 0;
                check.is("holds(1, " + vintage + ")", book.holds(1, vintage), due);
                check.is("holds(0, " + vintage + ")", book.holds(0, vintage), 0);
                check.is("vintage(" + vintage + ", 0)", book.vintage(vintage, 0), due);
            }
        }
    }

    private static void issuesOffsets() {
        check.sentence("Promise 5", "Issues offsets to a firm.");
        for (int issued = 0; issued <= 2; issued++) {
            AllowanceBook book = Check.withFirms(2);
            check.is("issueOffsets(1, " + issued + ", 6)", book.issueOffsets(1, issued, 6), 6);
            check.is("issueOffsets(1, " + issued + ", 5)", book.issueOffsets(1, issued, 5), 11);
            for (int grade = 0; grade <= 2; grade++) {
                check.is("offsets(0, " + grade + ", 0)", book.offsets(0, grade, 0), 0);
                check.is("offsets(1, " + grade + ", 0)", book.offsets(1, grade, 0), grade == issued ? 11 : 0);
                check.is("offsets(1, " + grade + ", 2)", book.offsets(1, grade, 2), 0);
            }
            check.is("firm(1, 0)", book.firm(1, 0), 0);
        }
    }

    private static void transfersAllowances() {
        check.sentence("Promise 6", "Transfers allowances.");
        check.sentence("Promise 6", "Returns what the first firm holds of this vintage then");
        AllowanceBook book = Books.rich();
        check.is("transfer(0, 2, 1, 20)", book.transfer(0, 2, 1, 20), 30);
        check.is("transfer(2, 1, 1, 5)", book.transfer(2, 1, 1, 5), 15);
        int[][] due = {{40, 30, 60}, {30, 5, 0}, {0, 15, 0}};
        for (int firm = 0; firm < 3; firm++) {
            for (int vintage = 0; vintage < 3; vintage++) {
                check.is("holds(" + firm + ", " + vintage + ")", book.holds(firm, vintage), due[firm][vintage]);
            }
        }
        check.is("vintage(1, 0)", book.vintage(1, 0), 50);
        check.is("vintage(1, 1)", book.vintage(1, 1), 50);
        check.is("vintage(1, 5)", book.vintage(1, 5), 3);
        check.is("firm(0, 8)", book.firm(0, 8), 56);
        check.is("offsets(0, 1, 0)", book.offsets(0, 1, 0), 50);
    }

    private static void transfersOffsets() {
        check.sentence("Promise 7", "Transfers offsets.");
        check.sentence("Promise 7", "Returns what the first firm holds of this grade then");
        AllowanceBook book = Books.rich();
        check.is("transferOffsets(0, 2, 2, 20)", book.transferOffsets(0, 2, 2, 20), 24);
        check.is("transferOffsets(2, 1, 2, 5)", book.transferOffsets(2, 1, 2, 5), 15);
        int[][] held = {{50, 50, 24}, {0, 0, 12}, {0, 0, 15}};
        int[][] used = {{0, 0, 6}, {0, 0, 0}, {0, 0, 0}};
        for (int firm = 0; firm < 3; firm++) {
            for (int grade = 0; grade < 3; grade++) {
                String call = "offsets(" + firm + ", " + grade;
                check.is(call + ", 0)", book.offsets(firm, grade, 0), held[firm][grade]);
                check.is(call + ", 2)", book.offsets(firm, grade, 2), used[firm][grade]);
            }
        }
        check.is("grade(2, 0)", book.grade(2, 0), 57);
        check.is("grade(2, 1)", book.grade(2, 1), 51);
        check.is("firm(0, 0)", book.firm(0, 0), 150);
    }

    private static void cancelsWhatItHolds() {
        check.sentence("Promise 8", "Returns what it holds of this vintage then");
        AllowanceBook book = Books.rich();
        check.is("cancel(0, 1, 20)", book.cancel(0, 1, 20), 30);
        check.is("cancel(0, 1, 5)", book.cancel(0, 1, 5), 25);
        check.is("cancel(1, 0, 30)", book.cancel(1, 0, 30), 0);
        int[] cancelled = {40, 25, 1};
        for (int vintage = 0; vintage < 3; vintage++) {
            check.is("vintage(" + vintage + ", 3)", book.vintage(vintage, 3), cancelled[vintage]);
        }
        check.is("firm(0, 0)", book.firm(0, 0), 125);
        check.is("vintage(1, 0)", book.vintage(1, 0), 50);
    }

    private static void reportsWhatAFirmEmitted() {
        check.sentence("Promise 9", "Reports what a firm emitted.");
        AllowanceBook book = Books.rich();
        check.is("report(0, 20)", book.report(0, 20), 25);
        check.is("firm(0, 4)", book.firm(0, 4), 25);
        check.is("firm(0, 5)", book.firm(0, 5), 73);
        check.is("firm(0, 6)", book.firm(0, 6), 200);
        check.is("firm(0, 7)", book.firm(0, 7), 194);
        check.is("firm(1, 4)", book.firm(1, 4), 0);
    }

    private static void verifiesWhatAFirmHasReported() {
        check.sentence("Promise 10", "Lets what a firm has reported be verified.");
        AllowanceBook book = Books.rich();
        book.report(1, 9);
        check.is("verify(0)", book.verify(0), 78);
        check.is("firm(0, 4)", book.firm(0, 4), 0);
        check.is("firm(0, 5)", book.firm(0, 5), 78);
        check.is("firm(0, 6)", book.firm(0, 6), 200);
        check.is("firm(0, 7)", book.firm(0, 7), 194);
        check.is("firm(1, 4)", book.firm(1, 4), 9);
        check.is("firm(1, 5)", book.firm(1, 5), 0);
    }

    private static void surrendersAndReturnsWhatIsDue() {
        check.sentence("Promise 11", "Lets a firm surrender tonnes.");
        check.sentence("Promise 11", "Returns what is due then");
        AllowanceBook book = Books.rich();
        check.is("surrender(0, 50, 0)", book.surrender(0, 50, 0), 144);
        check.is("surrender(0, 50, 1)", book.surrender(0, 50, 1), 94);
        check.is("surrender(0, 50, 2)", book.surrender(0, 50, 2), 44);
        check.is("firm(0, 7)", book.firm(0, 7), 44);
        check.is("firm(0, 8)", book.firm(0, 8), 206);
        check.is("firm(1, 7)", book.firm(1, 7), 33);
        check.is("firm(1, 8)", book.firm(1, 8), 0);
        check.is("surrender(1, 3, 0)", book.surrender(1, 3, 0), 30);
        check.is("count(8)", book.count(8), 74);
    }

    private static void typesBehindTheText() {
        check.sentence("Promise 13", "Types a character behind the text.");
        AllowanceBook book = Books.rich();
        check.is("type('2')", book.type('2'), 8);
        check.is("readTransfers() of 0>1:0*52", book.readTransfers(), -4);
        book.clearText();
        Check.write(book, "0>1:0*3");
        check.is("type('1')", book.type('1'), 8);
        check.is("readTransfers() of 0>1:0*31", book.readTransfers(), 1);
        check.is("holds(1, 0)", book.holds(1, 0), 61);
    }

    private static void undoRemovesAndRestores() {
        check.sentence("Promise 16", "Removes and restores the latest state of the history.");
        AllowanceBook book = Books.rich();
        int[] notVerified = {5, 5, 0, 73};
        int[] held = {61, 60, 60, 60};
        int[] verified = {73, 73, 73, 0};
        for (int i = 0; i < 4; i++) {
            check.is("undo()", book.undo(), 3 - i);
            check.is("holds(0, 2)", book.holds(0, 2), held[i]);
            check.is("firm(0, 4)", book.firm(0, 4), notVerified[i]);
            check.is("firm(0, 5)", book.firm(0, 5), verified[i]);
        }
        check.is("undo() of none", book.undo(), -5);
    }

    // ---- what is told

    private static void tellsAllAllowances() {
        check.sentence("Promise 19", "0 for all allowances that it holds");
        AllowanceBook book = Check.withFirms(2);
        int held = 0;
        for (int vintage = 0; vintage <= 3; vintage++) {
            book.issue(0, 10 + vintage);
            held += 10 + vintage;
            check.is("firm(0, 0) in the year " + vintage, book.firm(0, 0), held);
            check.is("firm(1, 0) in the year " + vintage, book.firm(1, 0), 0);
            book.pass(12);
        }
        check.is("firm(0, 0) without the vintage 0", book.firm(0, 0), held - 10);
        book.transfer(0, 1, 2, 5);
        check.is("firm(0, 0) after a transfer", book.firm(0, 0), held - 15);
        check.is("firm(1, 0) after a transfer", book.firm(1, 0), 5);
        book.issueOffsets(0, 0, 99);
        check.is("firm(0, 0) with offsets", book.firm(0, 0), held - 15);
    }

    private static void tellsWhatIsReportedAndVerified() {
        AllowanceBook book = Check.withFirms(1);
        book.report(0, 7);
        book.report(0, 8);
        check.sentence("Promise 19", "4 for what it has reported this year and did not let be verified");
        check.is("firm(0, 4)", book.firm(0, 4), 15);
        book.verify(0);
        check.is("firm(0, 4) after verify", book.firm(0, 4), 0);
        book.report(0, 2);
        check.is("firm(0, 4) of two", book.firm(0, 4), 2);
        check.sentence("Promise 19", "5 for what is verified of this year");
        check.is("firm(0, 5)", book.firm(0, 5), 15);
        book.verify(0);
        check.is("firm(0, 5) after verify", book.firm(0, 5), 17);
        book.pass(12);
        check.is("firm(0, 5) in the next year", book.firm(0, 5), 0);
    }

    private static void tellsBaseAndDue() {
        AllowanceBook book = Check.withBase(90);
        book.issue(0, 50);
        book.surrender(0, 50, 0);
        book.report(0, 60);
        book.verify(0);
        check.sentence("Promise 19", "6 for its base");
        check.is("firm(0, 6) of the year 0", book.firm(0, 6), 90);
        check.sentence("Promise 19", "7 for what is due");
        check.is("firm(0, 7) of the year 0", book.firm(0, 7), 40);
        book.pass(12);
        check.is("firm(0, 7) of both years", book.firm(0, 7), 100);
        check.sentence("Promise 19", "6 for its base");
        check.is("firm(0, 6) of the year 1", book.firm(0, 6), 60);
    }

    private static void tellsWhatIsSurrendered() {
        check.sentence("Promise 19", "8 for what it has surrendered so far");
        AllowanceBook[] books = byThreeWays();
        eachIs("firm(0, 8)", book -> book.firm(0, 8), books, 25, 25, 25);
        for (AllowanceBook book : books) {
            book.issue(0, 40);
            book.surrender(0, 5, 0);
            book.pass(24);
            book.cancel(0, 3, 1);
        }
        eachIs("firm(0, 8) two years later", book -> book.firm(0, 8), books, 30, 30, 30);
        for (AllowanceBook book : books) {
            book.surrender(0, 1, 0);
        }
        eachIs("firm(0, 8) of one more", book -> book.firm(0, 8), books, 31, 31, 31);
    }

    private static void tellsFines() {
        check.sentence("Promise 19", "9 for the fines that it has paid so far");
        AllowanceBook book = Check.withBase(3);
        book.addFirm();
        int[] months = {15, 16, 27, 28, 40};
        int[] fines = {0, 150, 150, 300, 450};
        for (int i = 0; i < months.length; i++) {
            Check.passTo(book, months[i]);
            check.is("firm(0, 9) in the month " + months[i], book.firm(0, 9), fines[i]);
            check.is("firm(1, 9) in the month " + months[i], book.firm(1, 9), 0);
        }
        book.issue(0, 3);
        book.surrender(0, 3, 0);
        book.set(4, 1);
        check.is("firm(0, 9) when nothing is due", book.firm(0, 9), 450);
    }

    private static void tellsHoldings() {
        check.sentence("Promise 20", "Returns what it holds of this vintage; UNKNOWN (firm or vintage).");
        AllowanceBook book = Books.rich();
        int[] firms = {0, 0, 0, 0, 1, 1, 2, 2, 3, -1, 0, 0, 3, -1};
        int[] vintages = {0, 1, 2, 19, 0, 1, 0, 19, 0, 0, 20, -1, 20, -1};
        int[] due = {40, 50, 60, 0, 30, 0, 0, 0, -1, -1, -1, -1, -1, -1};
        for (int i = 0; i < due.length; i++) {
            check.is("holds(" + firms[i] + ", " + vintages[i] + ")", book.holds(firms[i], vintages[i]), due[i]);
        }
    }

    private static void tellsOffsets() {
        check.sentence("Promise 21", "Returns the number; UNKNOWN (firm or grade); BAD_VALUE.");
        AllowanceBook book = Books.rich();
        int[] firms = {0, 1, 2, 3, -1, 0, 0, 3, 0, 0, 2};
        int[] grades = {2, 2, 2, 2, 2, 3, -1, 3, 0, 0, 2};
        int[] whats = {0, 0, 0, 0, 3, 3, 0, -1, 3, -1, 3};
        int[] due = {44, 7, 0, -1, -1, -1, -1, -1, -2, -2, -2};
        for (int i = 0; i < due.length; i++) {
            String call = "offsets(" + firms[i] + ", " + grades[i] + ", " + whats[i] + ")";
            check.is(call, book.offsets(firms[i], grades[i], whats[i]), due[i]);
        }
        for (int what = 0; what <= 2; what++) {
            check.is("offsets(1, 2, " + what + ")", book.offsets(1, 2, what), what == 0 ? 7 : what == 1 ? 1 : 0);
        }
    }

    private static void tellsVintagesAndGrades() {
        AllowanceBook book = Books.rich();
        int[] numbers = {0, 2, 20, -1, 20, 0, 0, 2};
        int[] whats = {0, 0, 0, 7, -1, 7, -1, -1};
        int[] due = {130, 61, -1, -1, -1, -2, -2, -2};
        check.sentence("Promise 22", "Returns the number; UNKNOWN; BAD_VALUE.");
        for (int i = 0; i < due.length; i++) {
            check.is("vintage(" + numbers[i] + ", " + whats[i] + ")", book.vintage(numbers[i], whats[i]), due[i]);
        }
        int[] grades = {0, 2, 3, -1, 3, 0, 0, 2};
        int[] whatsOfGrades = {0, 0, 0, 3, -1, 3, -1, 3};
        int[] dueOfGrades = {50, 57, -1, -1, -1, -2, -2, -2};
        check.sentence("Promise 23", "Returns the number; UNKNOWN; BAD_VALUE.");
        for (int i = 0; i < dueOfGrades.length; i++) {
            String call = "grade(" + grades[i] + ", " + whatsOfGrades[i] + ")";
            check.is(call, book.grade(grades[i], whatsOfGrades[i]), dueOfGrades[i]);
        }
    }

    private static void tellsHolders() {
        check.sentence("Promise 24", "Tells which firm holds how much.");
        check.sentence("Promise 24", "a place among the firms that hold any of this vintage, from 0");
        AllowanceBook book = Books.rich();
        int[][] due = {{0, 1, -5}, {0, -5, -5}, {0, -5, -5}, {-5, -5, -5}};
        for (int vintage = 0; vintage < due.length; vintage++) {
            for (int place = 0; place < 3; place++) {
                check.is("holder(" + vintage + ", " + place + ")", book.holder(vintage, place), due[vintage][place]);
            }
        }
        book.transfer(0, 2, 0, 35);
        int[] dueThen = {2, 1, 0, -5};
        for (int place = 0; place < dueThen.length; place++) {
            check.is("holder(0, " + place + ") after a transfer", book.holder(0, place), dueThen[place]);
        }
        check.sentence("Promise 24", "Returns the firm; UNKNOWN");
        check.is("holder(20, 0)", book.holder(20, 0), -1);
        check.is("holder(-1, 0)", book.holder(-1, 0), -1);
    }

    private static void tellsTheTime() {
        check.sentence("Promise 26", "0 for the month, 1 for the year, 2 for the number of firms");
        AllowanceBook book = Check.withFirms(5);
        for (int month = 0; month <= 239; month += month % 12 == 11 ? 1 : 11) {
            Check.passTo(book, month);
            check.is("count(0)", book.count(0), month);
            check.is("count(1) in the month " + month, book.count(1), month / 12);
        }
        check.is("count(2)", book.count(2), 5);
    }

    private static void tellsSettings() {
        check.sentence("Promise 26", "3 to 5 for the limits of the grades 0 to 2, 6 for the bank, 7 for the fine");
        AllowanceBook book = new AllowanceBook();
        int[] values = {61, 72, 83, 4, 95};
        for (int what = 0; what <= 4; what++) {
            book.set(what, values[what]);
        }
        for (int what = 0; what <= 4; what++) {
            check.is("count(" + (3 + what) + ")", book.count(3 + what), values[what]);
        }
    }

    private static void tellsSums() {
        AllowanceBook book = Check.withFirms(8);
        for (int firm = 0; firm < 8; firm++) {
            book.issue(firm, 100 + firm);
            book.issueOffsets(firm, 0, 9);
            book.report(firm, 10 + firm);
            book.verify(firm);
        }
        book.pass(16);
        book.issue(7, 1000);
        check.sentence("Promise 26", "8 for all that is due");
        check.is("count(8)", book.count(8), 108);
        check.sentence("Promise 26", "9 for all fines that were paid");
        check.is("count(9)", book.count(9), 5400);
        check.sentence("Promise 26", "10 for all allowances that are held");
        check.is("count(10)", book.count(10), 1828);
        book.surrender(7, 17, 1);
        check.is("count(10) after a surrender", book.count(10), 1811);
        check.is("count(8) after a surrender", book.count(8), 91);
        check.is("count(9) after a surrender", book.count(9), 5400);
    }

    private static void tellsHistoryAndText() {
        AllowanceBook book = new AllowanceBook();
        int[] states = {1, 2, 3, 4, 4, 4};
        check.sentence("Promise 26", "13 for the states in the history");
        check.is("count(13) of a new one", book.count(13), 0);
        for (int due : states) {
            book.addFirm();
            check.is("count(13)", book.count(13), due);
        }
        book.undo();
        check.is("count(13) after undo()", book.count(13), 3);
        check.sentence("Promise 26", "14 for the length of the text");
        for (int length = 1; length <= 60; length++) {
            book.type(';');
            check.is("count(14)", book.count(14), length);
        }
        book.clearText();
        check.is("count(14) after clearText()", book.count(14), 0);
    }
}
