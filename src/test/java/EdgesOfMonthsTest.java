/** The sentences of 'Terms' under SURRENDER and MONTHS that name a boundary case, a test for each. */
final class EdgesOfMonthsTest {
    private static final Check check = new Check("edges of surrender and months");

    public static void main(String[] args) {
        oldestFirst();
        newestFirst();
        offsetsFirst();
        asManyAsAreHeldAndMayBeUsed();
        asManyAsAreNeeded();
        surrenderedIsNoLongerDue();
        monthBecomesGreaterByOne();
        oneAfterTheOther();
        yearBegins();
        tenthIsRoundedUp();
        tenthOfWhatIsNotVerified();
        baseIsOfTheYearThatIsOver();
        usedBecomesZero();
        dueBecomesGreater();
        nothingIsReported();
        tooOldAreLost();
        fifthMonth();
        notInTheYearZero();
        anyTonnesAreDue();
        fineAtLeastAndMost();
        fineAtFirst();
        theyStayDue();
        greatestFines();
        check.end();
    }

    // ---- SURRENDER

    /** In the month 24 the one firm holds 10, 20 and 30 of the vintages 0 to 2, and 100 tonnes are due. */
    private static AllowanceBook withThreeVintages() {
        AllowanceBook book = Check.withFirms(1);
        book.issue(0, 10);
        book.pass(12);
        book.issue(0, 20);
        book.report(0, 100);
        book.verify(0);
        book.pass(12);
        book.issue(0, 30);
        return book;
    }

    private static void leaves(String call, AllowanceBook book, int... due) {
        for (int vintage = 0; vintage < due.length; vintage++) {
            check.is("holds(0, " + vintage + ") after " + call, book.holds(0, vintage), due[vintage]);
        }
    }

    private static void oldestFirst() {
        check.sentence("Terms", "0: allowances, the oldest vintage first");
        int[] tonnes = {1, 9, 10, 11, 30, 31, 60};
        int[][] due = {{9, 20, 30}, {1, 20, 30}, {0, 20, 30}, {0, 19, 30}, {0, 0, 30}, {0, 0, 29}, {0, 0, 0}};
        for (int i = 0; i < tonnes.length; i++) {
            AllowanceBook book = withThreeVintages();
            String call = "surrender(0, " + tonnes[i] + ", 0)";
            check.is(call, book.surrender(0, tonnes[i], 0), 100 - tonnes[i]);
            leaves(call, book, due[i]);
        }
        check.is("surrender(0, 61, 0)", withThreeVintages().surrender(0, 61, 0), -4);
    }

    private static void newestFirst() {
        check.sentence("Terms", "1: allowances, the newest vintage first");
        int[] tonnes = {1, 29, 30, 31, 50, 51, 60};
        int[][] due = {{10, 20, 29}, {10, 20, 1}, {10, 20, 0}, {10, 19, 0}, {10, 0, 0}, {9, 0, 0}, {0, 0, 0}};
        for (int i = 0; i < tonnes.length; i++) {
            AllowanceBook book = withThreeVintages();
            String call = "surrender(0, " + tonnes[i] + ", 1)";
            check.is(call, book.surrender(0, tonnes[i], 1), 100 - tonnes[i]);
            leaves(call, book, due[i]);
        }
        check.is("surrender(0, 61, 1)", withThreeVintages().surrender(0, 61, 1), -4);
    }

    private static void offsetsFirst() {
        check.sentence("Terms",
            "2: offsets of the grade 2, then 1, then 0, of each as many as the firm holds and may use; then "
            + "allowances, the oldest vintage first");
        int[] tonnes = {1, 5, 6, 15, 16, 35, 36, 45, 46, 95};
        int[][] used = {{0, 0, 1}, {0, 0, 5}, {0, 1, 5}, {0, 10, 5}, {1, 10, 5}, {20, 10, 5}, {20, 10, 5},
            {20, 10, 5}, {20, 10, 5}, {20, 10, 5}};
        int[][] held = {{10, 20, 30}, {10, 20, 30}, {10, 20, 30}, {10, 20, 30}, {10, 20, 30}, {10, 20, 30},
            {9, 20, 30}, {0, 20, 30}, {0, 19, 30}, {0, 0, 0}};
        for (int i = 0; i < tonnes.length; i++) {
            AllowanceBook book = withOffsets();
            String call = "surrender(0, " + tonnes[i] + ", 2)";
            check.is(call, book.surrender(0, tonnes[i], 2), 100 - tonnes[i]);
            leaves(call, book, held[i]);
            for (int grade = 0; grade <= 2; grade++) {
                check.is("used after " + call, book.offsets(0, grade, 2), used[i][grade]);
                check.is("held after " + call, book.offsets(0, grade, 0), 50 - used[i][grade]);
            }
        }
        check.is("surrender(0, 96, 2)", withOffsets().surrender(0, 96, 2), -4);
    }

    private static AllowanceBook withOffsets() {
        AllowanceBook book = withThreeVintages();
        for (int grade = 0; grade <= 2; grade++) {
            book.issueOffsets(0, grade, 50);
        }
        return book;
    }

    private static void asManyAsAreHeldAndMayBeUsed() {
        check.sentence("Terms", "of each as many as the firm holds and may use");
        int[] held = {19, 20, 21};
        int[] due = {81, 80, 80};
        for (int i = 0; i < held.length; i++) {
            AllowanceBook book = Check.withBase(100);
            book.issueOffsets(0, 0, held[i]);
            int most = 100 - due[i];
            check.is("one more than can be used", book.surrender(0, most + 1, 2), -4);
            check.is("as many as can be used", book.surrender(0, most, 2), due[i]);
            check.is("held after it", book.offsets(0, 0, 0), held[i] - most);
        }
    }

    private static void asManyAsAreNeeded() {
        check.sentence("Terms",
            "Of each vintage (or grade) as many are taken as are there (or may be used) and are still "
            + "needed.");
        AllowanceBook book = withOffsets();
        check.is("surrender(0, 3, 2)", book.surrender(0, 3, 2), 97);
        check.is("surrender(0, 3, 2) again", book.surrender(0, 3, 2), 94);
        check.is("of the grade 2", book.offsets(0, 2, 2), 5);
        check.is("of the grade 1", book.offsets(0, 1, 2), 1);
        check.is("of the grade 0", book.offsets(0, 0, 2), 0);
        check.is("of allowances", book.firm(0, 0), 60);
    }

    private static void surrenderedIsNoLongerDue() {
        check.sentence("Terms", "What is surrendered is no longer due.");
        for (int way = 0; way <= 2; way++) {
            AllowanceBook book = Check.withBase(30);
            book.issue(0, 40);
            book.issueOffsets(0, 0, 40);
            check.is("surrender(0, 29, " + way + ")", book.surrender(0, 29, way), 1);
            check.is("due", book.firm(0, 7), 1);
            check.is("surrender(0, 2, " + way + ")", book.surrender(0, 2, way), -4);
            check.is("surrender(0, 1, " + way + ")", book.surrender(0, 1, way), 0);
            check.is("due", book.firm(0, 7), 0);
            check.is("surrender(0, 1, " + way + ") again", book.surrender(0, 1, way), -4);
        }
    }

    // ---- MONTHS

    private static void monthBecomesGreaterByOne() {
        check.sentence("Terms", "When a month passes, the month becomes greater by 1.");
        AllowanceBook book = new AllowanceBook();
        for (int month = 1; month <= 239; month++) {
            book.pass(1);
            check.is("count(0)", book.count(0), month);
        }
    }

    private static void oneAfterTheOther() {
        check.sentence("Promise 12", "Lets months pass, one after the other.");
        for (int start = 0; start <= 30; start++) {
            for (int months = 1; months <= 24; months++) {
                passesAsSingleMonths(start, months);
            }
        }
    }

    private static void passesAsSingleMonths(int start, int months) {
        AllowanceBook atOnce = withEmissions(start);
        AllowanceBook singly = withEmissions(start);
        int coins = 0;
        for (int i = 0; i < months; i++) {
            coins += singly.pass(1);
        }
        check.is("pass(" + months + ") in the month " + start, atOnce.pass(months), coins);
        for (int what = 0; what <= 9; what++) {
            check.is("firm(0, " + what + ")", atOnce.firm(0, what), singly.firm(0, what));
        }
        check.is("lost", atOnce.count(11), singly.count(11));
        check.is("month", atOnce.count(0), singly.count(0));
        check.is("fines", atOnce.count(9), singly.count(9));
    }

    private static AllowanceBook withEmissions(int month) {
        AllowanceBook book = Check.withFirms(1);
        book.set(3, 1);
        book.issue(0, 20);
        book.report(0, 77);
        Check.passTo(book, month);
        book.issue(0, 30);
        book.report(0, 31);
        book.verify(0);
        book.report(0, 5);
        return book;
    }

    private static void yearBegins() {
        check.sentence("Terms", "1. If a new year begins:");
        for (int year = 1; year <= 19; year++) {
            AllowanceBook book = Check.inMonth(1, year * 12 - 2);
            book.report(0, 50);
            book.verify(0);
            book.pass(1);
            check.is("due in the last month of a year", book.firm(0, 7), 0);
            check.is("verified in the last month of a year", book.firm(0, 5), 50);
            book.pass(1);
            check.is("due in the first month of a year", book.firm(0, 7), 50);
            check.is("verified in the first month of a year", book.firm(0, 5), 0);
            book.report(0, 8);
            book.pass(1);
            check.is("due in the second month of a year", book.firm(0, 7), 50);
            check.is("reported in the second month of a year", book.firm(0, 4), 8);
        }
    }

    private static void tenthIsRoundedUp() {
        check.sentence("Terms", "is verified with a tenth more (that tenth is rounded up)");
        int[] reported = {1, 9, 10, 11, 19, 20, 21, 9990, 9991, 9999};
        int[] tenths = {1, 1, 1, 2, 2, 2, 3, 999, 1000, 1000};
        for (int i = 0; i < reported.length; i++) {
            AllowanceBook book = Check.withFirms(1);
            book.report(0, reported[i]);
            book.pass(12);
            check.is("base of " + reported[i], book.firm(0, 6), reported[i] + tenths[i]);
        }
    }

    private static void tenthOfWhatIsNotVerified() {
        check.sentence("Terms", "what it reported and did not let be verified is verified with a tenth more");
        AllowanceBook book = Check.withFirms(4);
        book.report(0, 100);
        book.verify(0);
        book.report(1, 99);
        book.verify(1);
        book.report(1, 1);
        book.report(2, 1);
        book.verify(2);
        book.report(2, 99);
        book.pass(12);
        int[] due = {100, 101, 110, 0};
        for (int firm = 0; firm < 4; firm++) {
            check.is("base of the firm " + firm, book.firm(firm, 6), due[firm]);
        }
    }

    private static void baseIsOfTheYearThatIsOver() {
        check.sentence("Terms", "its base becomes all that is verified of the year that is over");
        AllowanceBook book = Check.withBase(40);
        check.is("base of the first year", book.firm(0, 6), 40);
        book.report(0, 30);
        book.verify(0);
        book.report(0, 10);
        book.pass(11);
        check.is("base in the month 23", book.firm(0, 6), 40);
        book.pass(1);
        check.is("base in the month 24", book.firm(0, 6), 41);
        book.pass(12);
        check.is("base of a year without emissions", book.firm(0, 6), 0);
    }

    private static void usedBecomesZero() {
        check.sentence("Terms", "its offsets used become 0");
        AllowanceBook book = Check.withBase(100);
        for (int grade = 0; grade <= 2; grade++) {
            book.issueOffsets(0, grade, 50);
        }
        book.surrender(0, 35, 2);
        book.report(0, 100);
        book.verify(0);
        book.pass(11);
        int[] used = {20, 10, 5};
        for (int grade = 0; grade <= 2; grade++) {
            check.is("used in the month 23", book.offsets(0, grade, 2), used[grade]);
        }
        book.pass(1);
        for (int grade = 0; grade <= 2; grade++) {
            check.is("used in the month 24", book.offsets(0, grade, 2), 0);
            check.is("may use in the month 24", book.offsets(0, grade, 1), used[grade]);
        }
    }

    private static void dueBecomesGreater() {
        check.sentence("Terms", "what is due becomes greater by the base");
        AllowanceBook book = Check.withBase(40);
        check.is("due of the first year", book.firm(0, 7), 40);
        book.report(0, 10);
        book.pass(12);
        check.is("due of two years", book.firm(0, 7), 51);
        book.pass(12);
        check.is("due after a year without emissions", book.firm(0, 7), 51);
    }

    private static void nothingIsReported() {
        check.sentence("Terms", "nothing is reported or verified for the new year");
        AllowanceBook book = Check.withFirms(1);
        book.report(0, 30);
        book.verify(0);
        book.report(0, 20);
        book.pass(11);
        check.is("firm(0, 4) in the month 11", book.firm(0, 4), 20);
        check.is("firm(0, 5) in the month 11", book.firm(0, 5), 30);
        book.pass(1);
        check.is("firm(0, 4) in the month 12", book.firm(0, 4), 0);
        check.is("firm(0, 5) in the month 12", book.firm(0, 5), 0);
        check.is("verify(0) in the month 12", book.verify(0), -5);
    }

    private static void tooOldAreLost() {
        check.sentence("Terms", "Then allowances that are too old are lost.");
        AllowanceBook book = Check.withFirms(8);
        book.issue(0, 1);
        book.issue(7, 9999);
        book.pass(24);
        book.set(3, 1);
        check.is("held when the bank is set", book.vintage(0, 1), 10000);
        book.pass(11);
        check.is("held in the month 35", book.vintage(0, 1), 10000);
        book.set(3, 2);
        book.set(3, 3);
        book.pass(12);
        check.is("held in the month 47 by a longer bank", book.vintage(0, 1), 10000);
        book.pass(1);
        check.is("held in the month 48", book.vintage(0, 1), 0);
        check.is("lost in the month 48", book.vintage(0, 4), 10000);
    }

    private static void fifthMonth() {
        check.sentence("Terms", "If it is the fifth month of a year (month % 12 is 4)");
        for (int year = 1; year <= 19; year++) {
            AllowanceBook book = Check.inMonth(1, year * 12 - 1);
            book.report(0, 10);
            book.verify(0);
            check.is("pass(4) to the fourth month of the year " + year, book.pass(4), 0);
            check.is("pass(1) to the fifth", book.pass(1), 500);
            check.is("pass(1) to the sixth", book.pass(1), 0);
        }
        AllowanceBook book = Check.withBase(10);
        check.is("pass(15) with one deadline", book.pass(15), 500);
        check.is("pass(1) to the next", book.pass(1), 500);
    }

    private static void notInTheYearZero() {
        check.sentence("Terms", "and the year is not 0");
        AllowanceBook book = Check.withFirms(1);
        book.report(0, 10);
        book.verify(0);
        check.is("count(12) in the month 3", Check.inMonth(1, 3).count(12), 13);
        check.is("pass(4) in the year 0", book.pass(4), 0);
        check.is("pass(11)", book.pass(11), 0);
        check.is("pass(1) to the month 16", book.pass(1), 500);
    }

    private static void anyTonnesAreDue() {
        check.sentence("Terms", "each firm, by number, for which any tonnes are due is fined");
        AllowanceBook book = Check.withFirms(8);
        for (int firm = 0; firm < 8; firm++) {
            book.issue(firm, 9);
            book.report(firm, 9);
            book.verify(firm);
        }
        book.pass(12);
        for (int firm = 0; firm < 8; firm++) {
            book.surrender(firm, 9 - firm, 0);
        }
        check.is("pass(4)", book.pass(4), 28 * 50);
        for (int firm = 0; firm < 8; firm++) {
            check.is("fines of a firm with " + firm + " due", book.firm(firm, 9), firm * 50);
        }
    }

    private static void fineAtLeastAndMost() {
        check.sentence("Terms", "these tonnes * the fine (0 to 99 coins, at first 50)");
        int[] fines = {0, 1, 99};
        for (int fine : fines) {
            AllowanceBook book = Check.withBase(7);
            book.set(4, fine);
            check.is("pass(4) with the fine " + fine, book.pass(4), 7 * fine);
            check.is("firm(0, 9) with the fine " + fine, book.firm(0, 9), 7 * fine);
        }
        AllowanceBook book = Check.withBase(7);
        check.is("set(4, -1)", book.set(4, -1), -2);
        check.is("set(4, 100)", book.set(4, 100), -2);
        check.is("count(7)", book.count(7), 50);
    }

    private static void fineAtFirst() {
        check.sentence("Terms", "at first 50)");
        check.is("count(7)", new AllowanceBook().count(7), 50);
        check.is("pass(4) with one tonne due", Check.withBase(1).pass(4), 50);
    }

    private static void theyStayDue() {
        check.sentence("Terms", "They stay due.");
        AllowanceBook book = Check.withBase(3);
        check.is("pass(4)", book.pass(4), 150);
        check.is("due after the fine", book.firm(0, 7), 3);
        check.is("pass(12)", book.pass(12), 150);
        check.is("due after two fines", book.firm(0, 7), 3);
        book.issue(0, 3);
        check.is("surrender(0, 3, 0)", book.surrender(0, 3, 0), 0);
        check.is("pass(12) with nothing due", book.pass(12), 0);
    }

    /** The greatest numbers that 512 calls can make stand inside an int. */
    private static void greatestFines() {
        check.sentence("Terms", "these tonnes * the fine (0 to 99 coins, at first 50)");
        AllowanceBook book = Check.withFirms(8);
        book.set(4, 99);
        for (int year = 0; year < 19; year++) {
            for (int firm = 0; firm < 8; firm++) {
                book.report(firm, 9999);
            }
            check.is("pass(12)", book.pass(12), 8 * 99 * 10999 * year);
        }
        check.is("pass(11)", book.pass(11), 8 * 99 * 10999 * 19);
        check.is("firm(7, 7)", book.firm(7, 7), 19 * 10999);
        check.is("count(8)", book.count(8), 8 * 19 * 10999);
        check.is("firm(7, 9)", book.firm(7, 9), 99 * 10999 * 190);
        check.is("count(9)", book.count(9), 8L * 99 * 10999 * 190);
    }
}
