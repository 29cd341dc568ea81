/** The sentences of 'Terms' under TIME, HOLDINGS and EMISSIONS that name a boundary case, a test for each. */
final class EdgesOfTermsTest {
    private static final Check check = new Check("edges of the terms");

    public static void main(String[] args) {
        lastCall();
        monthAtFirst();
        monthAtMost();
        yearIsRoundedDown();
        vintageIsTheYearOfIssue();
        firmsAtMost();
        firmsAreNumberedFromZero();
        grades();
        vintages();
        lostWhenTheYearBecomesGreater();
        bankAtFirst();
        bankAtLeastAndMost();
        lastVintageThatIsLost();
        offsetsAreNeverLost();
        reportsAtMost();
        allAreZeroAtFirst();
        mayUseIsRoundedDown();
        mayUseIsLessWhatIsUsed();
        mayUseIsAtLeastZero();
        limitsAtLeastAndMost();
        limitsAtFirst();
        check.end();
    }

    private static void lastCall() {
        check.sentence("What it is", "An object is used for at most 512 calls after it has been made");
        AllowanceBook book = Check.withFirms(1);
        for (int call = 2; call < 512; call++) {
            book.issue(0, 9999);
        }
        check.is("the call 512, issue(0, 9999)", book.issue(0, 9999), 511 * 9999);
        AllowanceBook told = Check.withFirms(1);
        for (int call = 2; call < 512; call++) {
            told.issueOffsets(0, 2, 9999);
        }
        check.is("the call 512, grade(2, 1)", told.grade(2, 1), 510 * 9999);
        AllowanceBook undone = Check.withFirms(1);
        for (int call = 2; call < 512; call++) {
            undone.issue(0, 1);
        }
        check.is("the call 512, undo()", undone.undo(), 3);
    }

    // ---- TIME

    private static void monthAtFirst() {
        check.sentence("Terms", "The month is 0 at first");
        AllowanceBook book = new AllowanceBook();
        check.is("count(0) of a new one", book.count(0), 0);
        check.is("count(1) of a new one", book.count(1), 0);
        book.pass(1);
        check.is("count(0) a month later", book.count(0), 1);
    }

    private static void monthAtMost() {
        check.sentence("Terms", ", and at most 239");
        AllowanceBook book = Check.inMonth(1, 238);
        check.is("pass(1) to the month 239", book.pass(1), 0);
        check.is("count(0)", book.count(0), 239);
        check.is("pass(1) to the month 240", book.pass(1), -4);
        check.is("count(0) after it", book.count(0), 239);
    }

    private static void yearIsRoundedDown() {
        check.sentence("Terms", "The year is month / 12 (rounded down)");
        int[] months = {0, 11, 12, 23, 24, 227, 228, 239};
        int[] years = {0, 0, 1, 1, 2, 18, 19, 19};
        for (int i = 0; i < months.length; i++) {
            check.is("count(1) in the month " + months[i], Check.inMonth(0, months[i]).count(1), years[i]);
        }
    }

    private static void vintageIsTheYearOfIssue() {
        check.sentence("Terms", "The year in which an allowance is issued is its vintage (0 to 19)");
        int[] months = {0, 11, 12, 23, 24, 227, 228, 239};
        int[] vintages = {0, 0, 1, 1, 2, 18, 19, 19};
        for (int i = 0; i < months.length; i++) {
            AllowanceBook book = Check.inMonth(1, months[i]);
            book.issue(0, 7);
            for (int vintage = 0; vintage <= 19; vintage++) {
                check.is("holds(0, " + vintage + ") of what is issued in the month " + months[i],
                    book.holds(0, vintage), vintage == vintages[i] ? 7 : 0);
            }
        }
    }

    // ---- HOLDINGS

    private static void firmsAtMost() {
        check.sentence("Terms", "There are at most 8 firms");
        AllowanceBook book = Check.withFirms(7);
        check.is("addFirm() for the eighth", book.addFirm(), 7);
        check.is("addFirm() for a ninth", book.addFirm(), -3);
        check.is("count(2)", book.count(2), 8);
    }

    private static void firmsAreNumberedFromZero() {
        check.sentence("Terms", "numbered from 0");
        AllowanceBook one = Check.withFirms(1);
        AllowanceBook all = Check.withFirms(8);
        check.is("issue(-1, 1)", one.issue(-1, 1), -1);
        check.is("issue(0, 1)", one.issue(0, 1), 1);
        check.is("issue(1, 1) of one firm", one.issue(1, 1), -1);
        check.is("issue(7, 1) of eight firms", all.issue(7, 1), 1);
        check.is("issue(8, 1) of eight firms", all.issue(8, 1), -1);
        check.is("issue(0, 1) of no firm", Check.withFirms(0).issue(0, 1), -1);
    }

    private static void grades() {
        check.sentence("Terms", "offsets of the grades 0 (the best), 1 and 2");
        int[] due = {-1, 5, 5, 5, -1};
        for (int grade = -1; grade <= 3; grade++) {
            AllowanceBook book = Check.withFirms(1);
            check.is("issueOffsets(0, " + grade + ", 5)", book.issueOffsets(0, grade, 5), due[grade + 1]);
            for (int other = 0; other <= 2; other++) {
                check.is("offsets(0, " + other + ", 0)", book.offsets(0, other, 0), grade == other ? 5 : 0);
            }
        }
    }

    private static void vintages() {
        check.sentence("Terms", "A firm holds allowances of each vintage");
        AllowanceBook book = Check.inMonth(1, 239);
        book.issue(0, 5);
        check.is("holds(0, -1)", book.holds(0, -1), -1);
        check.is("holds(0, 0)", book.holds(0, 0), 0);
        check.is("holds(0, 19)", book.holds(0, 19), 5);
        check.is("holds(0, 20)", book.holds(0, 20), -1);
    }

    private static void lostWhenTheYearBecomesGreater() {
        check.sentence("Terms",
            "An allowance of the vintage v is lost when the year becomes greater than v + the bank");
        for (int bank = 1; bank <= 5; bank++) {
            for (int vintage = 0; vintage <= 2; vintage++) {
                AllowanceBook book = Check.inMonth(2, vintage * 12 + 11);
                book.issue(0, 3);
                book.pass(1);
                book.issue(1, 4);
                book.set(3, bank);
                Check.passTo(book, (vintage + bank + 1) * 12 - 1);
                check.is("held in the year v + " + bank, book.holds(0, vintage), 3);
                check.is("lost in the year v + " + bank, book.vintage(vintage, 4), 0);
                book.pass(1);
                check.is("held in the year after v + " + bank, book.holds(0, vintage), 0);
                check.is("lost in the year after v + " + bank, book.vintage(vintage, 4), 3);
                check.is("held of the vintage v + 1 then", book.holds(1, vintage + 1), 4);
                check.is("lost of the vintage v + 1 then", book.vintage(vintage + 1, 4), 0);
                check.is("issued stays", book.vintage(vintage, 0), 3);
            }
        }
    }

    private static void bankAtFirst() {
        check.sentence("Terms", "the bank (1 to 5 years, at first 3)");
        AllowanceBook book = Check.withFirms(1);
        check.is("count(6)", book.count(6), 3);
        book.issue(0, 3);
        Check.passTo(book, 47);
        check.is("held in the month 47", book.holds(0, 0), 3);
        book.pass(1);
        check.is("held in the month 48", book.holds(0, 0), 0);
    }

    private static void bankAtLeastAndMost() {
        check.sentence("Terms", "the bank (1 to 5 years, at first 3)");
        AllowanceBook book = new AllowanceBook();
        check.is("set(3, 0)", book.set(3, 0), -2);
        check.is("set(3, 1)", book.set(3, 1), 3);
        check.is("set(3, 5)", book.set(3, 5), 1);
        check.is("set(3, 6)", book.set(3, 6), -2);
        check.is("count(6)", book.count(6), 5);
    }

    private static void lastVintageThatIsLost() {
        check.sentence("Terms",
            "An allowance of the vintage v is lost when the year becomes greater than v + the bank");
        AllowanceBook book = Check.inMonth(1, 191);
        book.issue(0, 5);
        book.pass(1);
        book.issue(0, 6);
        Check.passTo(book, 227);
        check.is("the vintage 15 in the year 18", book.holds(0, 15), 5);
        book.pass(1);
        check.is("the vintage 15 in the year 19", book.holds(0, 15), 0);
        book.pass(11);
        check.is("the vintage 16 in the month 239", book.holds(0, 16), 6);
    }

    private static void offsetsAreNeverLost() {
        check.sentence("Terms", "Offsets are never lost.");
        AllowanceBook book = Check.withFirms(1);
        book.set(3, 1);
        for (int grade = 0; grade <= 2; grade++) {
            book.issueOffsets(0, grade, 5 + grade);
        }
        Check.passTo(book, 239);
        for (int grade = 0; grade <= 2; grade++) {
            check.is("offsets(0, " + grade + ", 0) in the month 239", book.offsets(0, grade, 0), 5 + grade);
            check.is("grade(" + grade + ", 1) in the month 239", book.grade(grade, 1), 5 + grade);
        }
    }

    // ---- EMISSIONS

    private static void reportsAtMost() {
        check.sentence("Terms", "A firm reports tonnes for the present year, at most 9999 in a year");
        AllowanceBook book = Check.withFirms(2);
        check.is("report(0, 9998)", book.report(0, 9998), 9998);
        check.is("report(0, 2) for 10000", book.report(0, 2), -3);
        check.is("report(0, 1) for 9999", book.report(0, 1), 9999);
        check.is("report(0, 1) for 10000", book.report(0, 1), -3);
        check.is("report(1, 9999) of another firm", book.report(1, 9999), 9999);
        book.pass(11);
        check.is("report(0, 1) in the month 11", book.report(0, 1), -3);
        book.pass(1);
        check.is("report(0, 9999) in the month 12", book.report(0, 9999), 9999);
    }

    private static void allAreZeroAtFirst() {
        check.sentence("Terms", "all of these are 0 at first");
        AllowanceBook book = Check.withFirms(8);
        for (int firm = 0; firm < 8; firm++) {
            check.is("base of " + firm, book.firm(firm, 6), 0);
            check.is("due of " + firm, book.firm(firm, 7), 0);
            for (int grade = 0; grade <= 2; grade++) {
                check.is("used by " + firm, book.offsets(firm, grade, 2), 0);
                check.is("may be used by " + firm, book.offsets(firm, grade, 1), 0);
            }
        }
    }

    private static void mayUseIsRoundedDown() {
        check.sentence("Terms", "base * limit / 100 (rounded down)");
        int[] bases = {4, 5, 9, 10, 19, 20, 39, 40, 99, 100, 9999};
        int[][] due = {{0, 0, 0}, {1, 0, 0}, {1, 0, 0}, {2, 1, 0}, {3, 1, 0}, {4, 2, 1}, {7, 3, 1}, {8, 4, 2},
            {19, 9, 4}, {20, 10, 5}, {1999, 999, 499}};
        for (int i = 0; i < bases.length; i++) {
            AllowanceBook book = Check.withBase(bases[i]);
            for (int grade = 0; grade <= 2; grade++) {
                String call = "offsets(0, " + grade + ", 1) of the base " + bases[i];
                check.is(call, book.offsets(0, grade, 1), due[i][grade]);
            }
        }
    }

    private static void mayUseIsLessWhatIsUsed() {
        check.sentence("Terms", "less those that it has used");
        AllowanceBook book = Check.withBase(20);
        book.issueOffsets(0, 0, 9);
        for (int used = 0; used < 4; used++) {
            check.is("may use when " + used + " are used", book.offsets(0, 0, 1), 4 - used);
            book.surrender(0, 1, 2);
        }
        check.is("may use when 4 are used", book.offsets(0, 0, 1), 0);
        check.is("surrender(0, 1, 2) then", book.surrender(0, 1, 2), -4);
        check.is("used", book.offsets(0, 0, 2), 4);
    }

    private static void mayUseIsAtLeastZero() {
        check.sentence("Terms", "less those that it has used (but at least 0)");
        AllowanceBook book = Check.withBase(100);
        book.issueOffsets(0, 0, 50);
        book.issue(0, 50);
        book.surrender(0, 10, 2);
        int[] limits = {11, 10, 9, 0};
        int[] due = {1, 0, 0, 0};
        for (int i = 0; i < limits.length; i++) {
            book.set(0, limits[i]);
            check.is("may use with the limit " + limits[i], book.offsets(0, 0, 1), due[i]);
            check.is("offsets that are taken then", book.plan(0, 5, 2, 1), due[i]);
            check.is("allowances that are taken then", book.plan(0, 5, 2, 0), 5 - due[i]);
        }
        check.is("still due at best then", book.firm(0, 10), 40);
    }

    private static void limitsAtLeastAndMost() {
        check.sentence("Terms", "The limits are from 0 to 100 percent");
        for (int grade = 0; grade <= 2; grade++) {
            AllowanceBook book = Check.withBase(321);
            check.is("set(" + grade + ", -1)", book.set(grade, -1), -2);
            check.is("set(" + grade + ", 101)", book.set(grade, 101), -2);
            book.set(grade, 0);
            check.is("may use with the limit 0", book.offsets(0, grade, 1), 0);
            book.set(grade, 1);
            check.is("may use with the limit 1", book.offsets(0, grade, 1), 3);
            book.set(grade, 99);
            check.is("may use with the limit 99", book.offsets(0, grade, 1), 317);
            book.set(grade, 100);
            check.is("may use with the limit 100", book.offsets(0, grade, 1), 321);
        }
        AllowanceBook most = Check.withFirms(1);
        most.set(0, 100);
        most.report(0, 9999);
        most.pass(12);
        check.is("may use of the greatest base", most.offsets(0, 0, 1), 10999);
    }

    private static void limitsAtFirst() {
        check.sentence("Terms", "at first 20, 10 and 5");
        AllowanceBook book = Check.withBase(100);
        int[] due = {20, 10, 5};
        for (int grade = 0; grade <= 2; grade++) {
            check.is("count(" + (3 + grade) + ")", book.count(3 + grade), due[grade]);
            check.is("offsets(0, " + grade + ", 1)", book.offsets(0, grade, 1), due[grade]);
        }
    }
}
