/** Promises 9 to 12: report, verify, surrender, pass. */
final class EmissionsTest {
    private static final Check check = new Check("emissions");
    private static final int[] BAD_TONNES = {0, -1, 10000, Integer.MIN_VALUE, Integer.MAX_VALUE};
    private static final int[] NO_FIRMS = {-1, 1, 8, Integer.MIN_VALUE, Integer.MAX_VALUE};

    public static void main(String[] args) {
        reports();
        verifies();
        tenthIsRoundedUp();
        surrendersOldestFirst();
        surrendersNewestFirst();
        surrendersOffsetsFirst();
        limitsStandAcrossCalls();
        refusesToSurrender();
        passes();
        fines();
        loses();
        losesByALowerBank();
        check.end();
    }

    /** A registry with one firm, for which tonnes are due in the month 12. */
    private static AllowanceBook withDue(int tonnes) {
        AllowanceBook book = Check.withFirms(1);
        book.report(0, tonnes);
        book.verify(0);
        book.pass(12);
        return book;
    }

    private static void reports() {
        AllowanceBook book = Check.withFirms(1);
        check.is("report(0, 9)", book.report(0, 9), 9);
        check.is("report(0, 11)", book.report(0, 11), 20);
        check.is("not verified", book.firm(0, 4), 20);
        check.is("report(0, 9980)", book.report(0, 9980), -3);
        check.is("verify(0)", book.verify(0), 20);
        check.is("report(0, 9980) when verified", book.report(0, 9980), -3);
        check.is("report(0, 9970)", book.report(0, 9970), 9970);
        check.is("report(0, 10)", book.report(0, 10), -3);
        check.is("report(0, 9)", book.report(0, 9), 9979);
        check.is("report(0, 1)", book.report(0, 1), -3);
        check.is("states", book.count(13), 4);
        book.undo();
        check.is("not verified after undo", book.firm(0, 4), 9970);
        for (int firm : NO_FIRMS) {
            check.is("report(" + firm + ", 0)", book.report(firm, 0), -1);
        }
        for (int tonnes : BAD_TONNES) {
            check.is("report(0, " + tonnes + ")", book.report(0, tonnes), -2);
        }
        book.pass(12);
        check.is("report(0, 9999) next year", book.report(0, 9999), 9999);
    }

    private static void verifies() {
        AllowanceBook book = Check.withFirms(1);
        check.is("verify of nothing", book.verify(0), -5);
        check.is("states after NONE", book.count(13), 1);
        book.report(0, 8);
        check.is("verify(0)", book.verify(0), 8);
        check.is("not verified", book.firm(0, 4), 0);
        check.is("verified", book.firm(0, 5), 8);
        check.is("verify again", book.verify(0), -5);
        book.report(0, 4);
        check.is("verified before verify", book.firm(0, 5), 8);
        check.is("verify(0)", book.verify(0), 12);
        book.undo();
        check.is("verified after undo", book.firm(0, 5), 8);
        check.is("not verified after undo", book.firm(0, 4), 4);
        for (int firm : NO_FIRMS) {
            check.is("verify(" + firm + ")", book.verify(firm), -1);
        }
    }

    private static void tenthIsRoundedUp() {
        int[] reported = {1, 9, 10, 11, 20, 21, 9999};
        int[] due = {2, 10, 11, 13, 22, 24, 10999};
        for (int i = 0; i < reported.length; i++) {
            AllowanceBook book = Check.withFirms(1);
            book.report(0, reported[i]);
            book.pass(11);
            check.is("due before the year ends", book.firm(0, 7), 0);
            check.is("base before the year ends", book.firm(0, 6), 0);
            book.pass(1);
            check.is("due of " + reported[i], book.firm(0, 7), due[i]);
            check.is("base of " + reported[i], book.firm(0, 6), due[i]);
            check.is("reported", book.firm(0, 4), 0);
            check.is("verified", book.firm(0, 5), 0);
        }
        AllowanceBook both = Check.withFirms(2);
        both.report(0, 100);
        both.verify(0);
        both.report(0, 15);
        both.report(1, 3);
        both.pass(12);
        check.is("verified and not", both.firm(0, 6), 117);
        check.is("the other firm", both.firm(1, 6), 4);
        both.report(0, 10);
        both.pass(12);
        check.is("base of the second year", both.firm(0, 6), 11);
        check.is("due of both years", both.firm(0, 7), 128);
        check.is("base of a year without reports", both.firm(1, 6), 0);
        check.is("due stays", both.firm(1, 7), 4);
    }

    /** Firm 0 holds 10 of each of the vintages 0, 1 and 2, and 100 tonnes are due. */
    private static AllowanceBook withThreeVintages() {
        AllowanceBook book = Check.withFirms(1);
        book.set(4, 0);
        book.issue(0, 10);
        book.report(0, 100);
        book.verify(0);
        book.pass(12);
        book.issue(0, 10);
        book.pass(12);
        book.issue(0, 10);
        return book;
    }

    private static void surrendersOldestFirst() {
        AllowanceBook book = withThreeVintages();
        check.is("surrender(0, 15, 0)", book.surrender(0, 15, 0), 85);
        check.is("holds(0, 0)", book.holds(0, 0), 0);
        check.is("holds(0, 1)", book.holds(0, 1), 5);
        check.is("holds(0, 2)", book.holds(0, 2), 10);
        check.is("vintage(0, 2)", book.vintage(0, 2), 10);
        check.is("vintage(1, 2)", book.vintage(1, 2), 5);
        check.is("firm(0, 8)", book.firm(0, 8), 15);
        check.is("surrender(0, 16, 0)", book.surrender(0, 16, 0), -4);
        check.is("surrender(0, 15, 0)", book.surrender(0, 15, 0), 70);
        check.is("firm(0, 0)", book.firm(0, 0), 0);
        book.undo();
        check.is("firm(0, 8) after undo", book.firm(0, 8), 15);
        check.is("firm(0, 7) after undo", book.firm(0, 7), 85);
        check.is("vintage(1, 2) after undo", book.vintage(1, 2), 5);
    }

    private static void surrendersNewestFirst() {
        AllowanceBook book = withThreeVintages();
        check.is("surrender(0, 15, 1)", book.surrender(0, 15, 1), 85);
        check.is("holds(0, 0)", book.holds(0, 0), 10);
        check.is("holds(0, 1)", book.holds(0, 1), 5);
        check.is("holds(0, 2)", book.holds(0, 2), 0);
        check.is("surrender(0, 16, 1)", book.surrender(0, 16, 1), -4);
    }

    private static void surrendersOffsetsFirst() {
        AllowanceBook book = withDue(100);
        book.issueOffsets(0, 0, 50);
        book.issueOffsets(0, 1, 4);
        book.issueOffsets(0, 2, 50);
        book.issue(0, 30);
        check.is("surrender(0, 3, 2)", book.surrender(0, 3, 2), 97);
        check.is("offsets(0, 2, 2)", book.offsets(0, 2, 2), 3);
        check.is("offsets(0, 2, 1)", book.offsets(0, 2, 1), 2);
        check.is("surrender(0, 7, 2)", book.surrender(0, 7, 2), 90);
        check.is("grade 2 used", book.offsets(0, 2, 2), 5);
        check.is("grade 1 used", book.offsets(0, 1, 2), 4);
        check.is("grade 1 held", book.offsets(0, 1, 0), 0);
        check.is("grade 0 used", book.offsets(0, 0, 2), 1);
        check.is("surrender(0, 50, 2)", book.surrender(0, 50, 2), -4);
        check.is("surrender(0, 49, 2)", book.surrender(0, 49, 2), 41);
        check.is("grade 0 held", book.offsets(0, 0, 0), 30);
        check.is("grade 0 surrendered", book.grade(0, 2), 20);
        check.is("grade 1 surrendered", book.grade(1, 2), 4);
        check.is("grade 2 surrendered", book.grade(2, 2), 5);
        check.is("allowances left", book.firm(0, 0), 0);
        check.is("all surrendered", book.firm(0, 8), 59);
        book.pass(12);
        check.is("offsets used in a new year", book.offsets(0, 0, 2), 0);
        check.is("offsets used in a new year", book.offsets(0, 2, 2), 0);
        check.is("offsets are not lost", book.offsets(0, 0, 0), 30);
        check.is("grade surrendered stays", book.grade(0, 2), 20);
    }

    private static void limitsStandAcrossCalls() {
        AllowanceBook book = withDue(100);
        book.issueOffsets(0, 0, 50);
        check.is("surrender(0, 12, 2)", book.surrender(0, 12, 2), 88);
        check.is("surrender(0, 9, 2)", book.surrender(0, 9, 2), -4);
        check.is("surrender(0, 8, 2)", book.surrender(0, 8, 2), 80);
        check.is("surrender(0, 1, 2)", book.surrender(0, 1, 2), -4);
        book.set(0, 25);
        check.is("may use with a higher limit", book.offsets(0, 0, 1), 5);
        book.set(0, 10);
        check.is("may use with a lower limit", book.offsets(0, 0, 1), 0);
        check.is("surrender(0, 1, 2) with a lower limit", book.surrender(0, 1, 2), -4);
        check.is("offsets count in way 2 alone", book.surrender(0, 1, 0), -4);
    }

    private static void refusesToSurrender() {
        AllowanceBook book = withDue(20);
        book.issue(0, 50);
        int states = book.count(13);
        check.is("more than is due", book.surrender(0, 21, 0), -4);
        for (int firm : NO_FIRMS) {
            check.is("surrender(" + firm + ", 0, 0)", book.surrender(firm, 0, 0), -1);
        }
        for (int tonnes : BAD_TONNES) {
            check.is("surrender(0, " + tonnes + ", 0)", book.surrender(0, tonnes, 0), -2);
        }
        int[] badWays = {-1, 3, Integer.MIN_VALUE, Integer.MAX_VALUE};
        for (int way : badWays) {
            check.is("surrender(0, 1, " + way + ")", book.surrender(0, 1, way), -2);
            check.is("surrender(0, 9999, " + way + ")", book.surrender(0, 9999, way), -2);
        }
        check.is("states after errors", book.count(13), states);
        check.is("surrender(0, 20, 0)", book.surrender(0, 20, 0), 0);
        check.is("surrender(0, 1, 0)", book.surrender(0, 1, 0), -4);
    }

    private static void passes() {
        AllowanceBook book = Check.withFirms(1);
        int[] bad = {0, -1, 25, Integer.MIN_VALUE, Integer.MAX_VALUE};
        for (int months : bad) {
            check.is("pass(" + months + ")", book.pass(months), -2);
        }
        check.is("states after errors", book.count(13), 1);
        check.is("pass(1)", book.pass(1), 0);
        check.is("month", book.count(0), 1);
        check.is("states", book.count(13), 2);
        for (int i = 0; i < 9; i++) {
            check.is("pass(24)", book.pass(24), 0);
        }
        check.is("month", book.count(0), 217);
        check.is("pass(23)", book.pass(23), -4);
        check.is("pass(25)", book.pass(25), -2);
        check.is("pass(22)", book.pass(22), 0);
        check.is("month", book.count(0), 239);
        check.is("year", book.count(1), 19);
        check.is("pass(1) at the end", book.pass(1), -4);
        book.undo();
        check.is("month after undo", book.count(0), 217);
    }

    private static void fines() {
        AllowanceBook book = Check.withFirms(2);
        check.is("year 0", book.pass(11), 0);
        book.report(0, 10);
        book.report(1, 100);
        book.verify(1);
        check.is("pass(4)", book.pass(4), 0);
        check.is("month", book.count(0), 15);
        check.is("the deadline", book.pass(1), 5550);
        check.is("firm(0, 9)", book.firm(0, 9), 550);
        check.is("firm(1, 9)", book.firm(1, 9), 5000);
        check.is("count(9)", book.count(9), 5550);
        check.is("due stays", book.count(8), 111);
        check.is("no fine after it", book.pass(11), 0);
        book.issue(0, 9999);
        book.surrender(0, 11, 0);
        check.is("one firm alone", book.pass(1), 5000);
        check.is("two deadlines", book.pass(24), 10000);
        check.is("firm(0, 9)", book.firm(0, 9), 550);
        check.is("firm(1, 9)", book.firm(1, 9), 20000);
        book.set(4, 0);
        check.is("a fine of 0", book.pass(12), 0);
        book.set(4, 99);
        check.is("a fine of 99", book.pass(12), 9900);
        book.undo();
        check.is("count(9) after undo", book.count(9), 20550);
    }

    private static void loses() {
        for (int bank = 1; bank <= 5; bank++) {
            AllowanceBook book = Check.withFirms(2);
            book.set(3, bank);
            book.issue(0, 7);
            book.issue(1, 5);
            book.issueOffsets(0, 1, 3);
            for (int year = 0; year < bank; year++) {
                book.pass(12);
            }
            book.pass(11);
            check.is("held with the bank " + bank, book.vintage(0, 1), 12);
            check.is("not lost yet", book.vintage(0, 4), 0);
            book.pass(1);
            check.is("held after the bank " + bank, book.vintage(0, 1), 0);
            check.is("lost after the bank " + bank, book.vintage(0, 4), 12);
            check.is("holds(0, 0)", book.holds(0, 0), 0);
            check.is("count(11)", book.count(11), 12);
            check.is("offsets stay", book.offsets(0, 1, 0), 3);
            book.undo();
            check.is("held after undo", book.vintage(0, 1), 12);
            check.is("lost after undo", book.count(11), 0);
        }
    }

    private static void losesByALowerBank() {
        AllowanceBook book = Check.withFirms(1);
        book.issue(0, 7);
        book.pass(12);
        book.issue(0, 5);
        book.pass(24);
        book.set(3, 1);
        check.is("a bank that is set takes nothing", book.firm(0, 0), 12);
        book.pass(11);
        check.is("nor do months", book.firm(0, 0), 12);
        book.pass(1);
        check.is("but a new year does", book.firm(0, 0), 0);
        check.is("lost of the vintage 0", book.vintage(0, 4), 7);
        check.is("lost of the vintage 1", book.vintage(1, 4), 5);
    }
}
