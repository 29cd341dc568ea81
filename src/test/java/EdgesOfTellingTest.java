import java.util.function.IntUnaryOperator;

/** The sentences of the promises 19 to 26 that name a boundary case, a test for each. */
final class EdgesOfTellingTest {
    private static final Check check = new Check("edges of what is told");
    private static final int MIN = Integer.MIN_VALUE;
    private static final int MAX = Integer.MAX_VALUE;

    public static void main(String[] args) {
        firms();
        vintages();
        grades();
        whatsOfAFirm();
        vintagesOfWhichItHoldsAny();
        oldestAndNewest();
        noneIfItHoldsNone();
        stillDueAtBest();
        stillDueInManyCalls();
        whatsOfOffsets();
        whatsOfAVintage();
        firmsThatHoldAny();
        monthsUntilLost();
        monthsUntilLostBeyondTheLastMonth();
        monthsUntilLostOfNone();
        monthsUntilLostWhenTooOld();
        whatsOfAGrade();
        holderThatHoldsTheMost();
        holderOfSeveral();
        holderIfThereAreNotSoMany();
        holderOfANegativePlace();
        planTellsWhetherDueOrNot();
        whatsOfAPlan();
        vintagesThatAreTouched();
        vintageThatIsTouchedFirst();
        planOfTonnes();
        planOfWays();
        planIfItHasNotSoMany();
        whatsOfTheRegistry();
        allThatWereLost();
        monthsUntilTheDeadline();
        check.end();
    }

    private static void whats(String call, int most, IntUnaryOperator told) {
        int[] bad = {MIN, -1, most + 1, MAX};
        for (int what : bad) {
            check.is(call + " of " + what, told.applyAsInt(what), -2);
        }
        for (int what = 0; what <= most; what++) {
            check.is(call + " of " + what + " is an error", told.applyAsInt(what) == -2 ? 1 : 0, 0);
        }
    }

    private static void firms() {
        AllowanceBook book = Check.withFirms(3);
        for (int firm = 0; firm < 3; firm++) {
            book.issue(firm, 10 + firm);
            book.issueOffsets(firm, 1, 20 + firm);
        }
        int[] firms = {MIN, -1, 0, 2, 3, 7, 8, MAX};
        for (int firm : firms) {
            boolean isFirm = firm == 0 || firm == 2;
            check.sentence("Promise 19", "- `firm`: a firm");
            check.is("firm(" + firm + ", 0)", book.firm(firm, 0), isFirm ? 10 + firm : -1);
            check.sentence("Promise 20", "- `firm`: a firm");
            check.is("holds(" + firm + ", 0)", book.holds(firm, 0), isFirm ? 10 + firm : -1);
            check.sentence("Promise 21", "- `firm`: a firm");
            check.is("offsets(" + firm + ", 1, 0)", book.offsets(firm, 1, 0), isFirm ? 20 + firm : -1);
            check.sentence("Promise 25", "- `firm`: a firm");
            check.is("plan(" + firm + ", 10, 0, 0)", book.plan(firm, 10, 0, 0), isFirm ? 10 : -1);
        }
    }

    private static void vintages() {
        AllowanceBook first = Check.withFirms(1);
        first.issue(0, 5);
        AllowanceBook last = Check.inMonth(1, 239);
        last.issue(0, 5);
        int[] vintages = {MIN, -1, 0, 1, 18, 19, 20, MAX};
        for (int vintage : vintages) {
            boolean isVintage = vintage >= 0 && vintage <= 19;
            int ofFirst = isVintage ? vintage == 0 ? 5 : 0 : -1;
            int ofLast = isVintage ? vintage == 19 ? 5 : 0 : -1;
            check.sentence("Promise 20", "- `vintage`: 0 to 19");
            check.is("holds(0, " + vintage + ") of the first", first.holds(0, vintage), ofFirst);
            check.is("holds(0, " + vintage + ") of the last", last.holds(0, vintage), ofLast);
            check.sentence("Promise 22", "- `vintage`: 0 to 19");
            check.is("vintage(" + vintage + ", 1) of the first", first.vintage(vintage, 1), ofFirst);
            check.is("vintage(" + vintage + ", 1) of the last", last.vintage(vintage, 1), ofLast);
            check.sentence("Promise 24", "- `vintage`: 0 to 19");
            int holderOfFirst = isVintage ? vintage == 0 ? 0 : -5 : -1;
            int holderOfLast = isVintage ? vintage == 19 ? 0 : -5 : -1;
            check.is("holder(" + vintage + ", 0) of the first", first.holder(vintage, 0), holderOfFirst);
            check.is("holder(" + vintage + ", 0) of the last", last.holder(vintage, 0), holderOfLast);
        }
    }

    private static void grades() {
        AllowanceBook book = Check.withFirms(1);
        for (int grade = 0; grade <= 2; grade++) {
            book.issueOffsets(0, grade, 5 + grade);
        }
        int[] grades = {MIN, -1, 0, 1, 2, 3, MAX};
        for (int grade : grades) {
            int due = grade >= 0 && grade <= 2 ? 5 + grade : -1;
            check.sentence("Promise 21", "- `grade`: 0 to 2");
            check.is("offsets(0, " + grade + ", 0)", book.offsets(0, grade, 0), due);
            check.sentence("Promise 23", "- `grade`: 0 to 2");
            check.is("grade(" + grade + ", 1)", book.grade(grade, 1), due);
        }
    }

    // ---- firm

    private static void whatsOfAFirm() {
        check.sentence("Promise 19", "Returns the number; UNKNOWN; BAD_VALUE.");
        AllowanceBook book = Books.rich();
        whats("firm(0, ..)", 10, what -> book.firm(0, what));
        int[] due = {150, 3, 0, 2, 5, 73, 200, 194, 56, 10000, 0};
        int[] dueOfOther = {30, 1, 0, 0, 0, 0, 33, 33, 0, 1650, 2};
        for (int what = 0; what <= 10; what++) {
            check.is("firm(0, " + what + ")", book.firm(0, what), due[what]);
            check.is("firm(1, " + what + ")", book.firm(1, what), dueOfOther[what]);
        }
    }

    /** One firm with one tonne of each vintage from the first to the last of these. */
    private static AllowanceBook withVintages(int first, int last) {
        AllowanceBook book = Check.withFirms(1);
        book.set(3, 5);
        for (int vintage = first; vintage <= last; vintage++) {
            Check.passTo(book, vintage * 12 + 11);
            book.issue(0, 1);
        }
        return book;
    }

    private static void vintagesOfWhichItHoldsAny() {
        check.sentence("Promise 19", "1 for the number of vintages of which it holds any");
        AllowanceBook book = withVintages(14, 19);
        check.is("firm(0, 1)", book.firm(0, 1), 6);
        for (int vintage = 14; vintage <= 19; vintage++) {
            book.cancel(0, vintage, 1);
            check.is("firm(0, 1)", book.firm(0, 1), 19 - vintage);
        }
        check.is("firm(0, 0)", book.firm(0, 0), 0);
    }

    private static void oldestAndNewest() {
        check.sentence("Promise 19", "2 for the oldest of these, 3 for the newest");
        AllowanceBook first = withVintages(0, 0);
        check.is("the oldest of the vintage 0", first.firm(0, 2), 0);
        check.is("the newest of the vintage 0", first.firm(0, 3), 0);
        AllowanceBook book = withVintages(14, 19);
        check.is("the oldest", book.firm(0, 2), 14);
        check.is("the newest", book.firm(0, 3), 19);
        book.cancel(0, 14, 1);
        check.is("the oldest without the vintage 14", book.firm(0, 2), 15);
        book.cancel(0, 19, 1);
        check.is("the newest without the vintage 19", book.firm(0, 3), 18);
        book.cancel(0, 16, 1);
        book.cancel(0, 17, 1);
        book.cancel(0, 15, 1);
        check.is("the oldest of one", book.firm(0, 2), 18);
        check.is("the newest of one", book.firm(0, 3), 18);
    }

    private static void noneIfItHoldsNone() {
        check.sentence("Promise 19", "(2 and 3: NONE if it holds none)");
        AllowanceBook book = Check.withFirms(2);
        book.issue(1, 9);
        book.issueOffsets(0, 0, 9);
        check.is("firm(0, 2) with offsets alone", book.firm(0, 2), -5);
        check.is("firm(0, 3) with offsets alone", book.firm(0, 3), -5);
        book.issue(0, 1);
        check.is("firm(0, 2) with one tonne", book.firm(0, 2), 0);
        check.is("firm(0, 3) with one tonne", book.firm(0, 3), 0);
        book.transfer(0, 1, 0, 1);
        check.is("firm(0, 2) when it is gone", book.firm(0, 2), -5);
        check.is("firm(0, 3) when it is gone", book.firm(0, 3), -5);
        check.is("firm(0, 0) when it is gone", book.firm(0, 0), 0);
        check.is("firm(0, 1) when it is gone", book.firm(0, 1), 0);
    }

    private static void stillDueAtBest() {
        check.sentence("Promise 19",
            "10 for the tonnes that would still be due if it surrendered as many as it can in the way 2");
        int[] issued = {64, 65, 66};
        int[] due = {1, 0, 0};
        for (int i = 0; i < issued.length; i++) {
            AllowanceBook book = Check.withBase(100);
            for (int grade = 0; grade <= 2; grade++) {
                book.issueOffsets(0, grade, 99);
            }
            check.is("firm(0, 10) with offsets alone", book.firm(0, 10), 65);
            book.issue(0, issued[i]);
            check.is("firm(0, 10) with " + issued[i], book.firm(0, 10), due[i]);
        }
        AllowanceBook few = Check.withBase(100);
        few.issueOffsets(0, 0, 19);
        few.issueOffsets(0, 1, 10);
        few.issueOffsets(0, 2, 6);
        check.is("firm(0, 10) of held and limits", few.firm(0, 10), 66);
        check.is("firm(0, 10) of nothing due", Check.withFirms(1).firm(0, 10), 0);
    }

    private static void stillDueInManyCalls() {
        check.sentence("Promise 19", "(in whatever number of calls)");
        AllowanceBook book = Check.withFirms(1);
        for (int year = 0; year < 3; year++) {
            book.report(0, 9999);
            book.verify(0);
            book.pass(12);
        }
        for (int i = 0; i < 3; i++) {
            book.issue(0, 9990);
        }
        check.is("firm(0, 10) of more than 9999", book.firm(0, 10), 27);
        for (int i = 0; i < 3; i++) {
            check.is("surrender(0, 9990, 2)", book.surrender(0, 9990, 2), 29997 - (i + 1) * 9990);
            check.is("firm(0, 10)", book.firm(0, 10), 27);
        }
        book.issueOffsets(0, 0, 26);
        check.is("firm(0, 10) with offsets", book.firm(0, 10), 1);
        book.issue(0, 1);
        check.is("firm(0, 10) with one more", book.firm(0, 10), 0);
    }

    // ---- offsets, vintage, grade

    private static void whatsOfOffsets() {
        check.sentence("Promise 21",
            "0 for the offsets that it holds of this grade, 1 for those that it may use, 2 for those that "
            + "it has used");
        AllowanceBook book = Books.rich();
        whats("offsets(0, 2, ..)", 2, what -> book.offsets(0, 2, what));
        int[][] due = {{50, 40, 0}, {50, 20, 0}, {44, 4, 6}};
        for (int grade = 0; grade <= 2; grade++) {
            for (int what = 0; what <= 2; what++) {
                check.is("offsets(0, " + grade + ", " + what + ")", book.offsets(0, grade, what), due[grade][what]);
            }
        }
    }

    private static void whatsOfAVintage() {
        check.sentence("Promise 22",
            "0 for the allowances that were issued, 1 for those that are held, 2 for those that were "
            + "surrendered, 3 for those that were cancelled, 4 for those that were lost");
        AllowanceBook book = Books.rich();
        whats("vintage(0, ..)", 6, what -> book.vintage(0, what));
        check.is("the whats of an empty one", book.vintage(19, 0), 0);
        int[][] due = {{130, 70, 50, 10, 0}, {50, 50, 0, 0, 0}, {61, 60, 0, 1, 0}, {0, 0, 0, 0, 0}};
        for (int vintage = 0; vintage < due.length; vintage++) {
            for (int what = 0; what <= 4; what++) {
                check.is("vintage(" + vintage + ", " + what + ")", book.vintage(vintage, what), due[vintage][what]);
            }
        }
        Check.passTo(book, 36);
        check.is("held of the vintage 0", book.vintage(0, 1), 0);
        check.is("lost of the vintage 0", book.vintage(0, 4), 70);
        check.is("lost of the vintage 1", book.vintage(1, 4), 0);
    }

    private static void firmsThatHoldAny() {
        check.sentence("Promise 22", "5 for the number of firms that hold any");
        AllowanceBook book = Check.withFirms(8);
        for (int firm = 0; firm < 8; firm++) {
            check.is("vintage(0, 5)", book.vintage(0, 5), firm);
            book.issue(firm, 1);
        }
        check.is("vintage(0, 5) of all", book.vintage(0, 5), 8);
        for (int firm = 0; firm < 8; firm++) {
            book.cancel(firm, 0, 1);
            check.is("vintage(0, 5)", book.vintage(0, 5), 7 - firm);
        }
        check.is("vintage(19, 5)", book.vintage(19, 5), 0);
    }

    private static void monthsUntilLost() {
        check.sentence("Promise 22", "6 for the months until those that are held are lost");
        for (int bank = 1; bank <= 5; bank++) {
            AllowanceBook book = Check.inMonth(1, 12);
            book.set(3, bank);
            book.issue(0, 1);
            int loss = (1 + bank + 1) * 12;
            int[] months = {12, 13, 23, 24, loss - 2, loss - 1};
            for (int month : months) {
                if (book.count(0) <= month) {
                    Check.passTo(book, month);
                    check.is("vintage(1, 6) with the bank " + bank, book.vintage(1, 6), loss - month);
                }
            }
            check.is("held", book.vintage(1, 1), 1);
            book.pass(1);
            check.is("held a month later", book.vintage(1, 1), 0);
            check.is("vintage(1, 6) a month later", book.vintage(1, 6), -5);
        }
    }

    private static void monthsUntilLostBeyondTheLastMonth() {
        check.sentence("Promise 22", "6 for the months until those that are held are lost");
        AllowanceBook book = Check.inMonth(1, 191);
        book.issue(0, 1);
        book.pass(1);
        book.issue(0, 1);
        check.is("vintage(15, 6), lost in the month 228", book.vintage(15, 6), 36);
        check.is("vintage(16, 6), lost in the month 240", book.vintage(16, 6), 48);
        Check.passTo(book, 239);
        book.issue(0, 1);
        check.is("vintage(16, 6) in the month 239", book.vintage(16, 6), 1);
        check.is("vintage(19, 6) in the month 239", book.vintage(19, 6), 37);
        book.set(3, 1);
        check.is("vintage(19, 6) with the bank 1", book.vintage(19, 6), 13);
        check.is("vintage(16, 6) with the bank 1", book.vintage(16, 6), 1);
        book.set(3, 5);
        check.is("vintage(19, 6) with the bank 5", book.vintage(19, 6), 61);
    }

    private static void monthsUntilLostOfNone() {
        check.sentence("Promise 22", "NONE if none is held");
        AllowanceBook book = Check.withFirms(2);
        check.is("vintage(0, 6) of none", book.vintage(0, 6), -5);
        check.is("vintage(19, 6) of none", book.vintage(19, 6), -5);
        book.issue(1, 1);
        check.is("vintage(0, 6) of one tonne", book.vintage(0, 6), 48);
        check.is("vintage(1, 6) of none", book.vintage(1, 6), -5);
        book.cancel(1, 0, 1);
        check.is("vintage(0, 6) when it is gone", book.vintage(0, 6), -5);
    }

    private static void monthsUntilLostWhenTooOld() {
        check.sentence("Promise 22",
            "until the next year begins, if they are too old already by a bank that was set since");
        AllowanceBook book = Check.withFirms(1);
        book.issue(0, 1);
        book.pass(24);
        check.is("vintage(0, 6) with the bank 3", book.vintage(0, 6), 24);
        book.set(3, 2);
        check.is("vintage(0, 6) with the bank 2", book.vintage(0, 6), 12);
        book.set(3, 1);
        check.is("vintage(0, 6) with the bank 1", book.vintage(0, 6), 12);
        book.pass(11);
        check.is("vintage(0, 6) in the month 35", book.vintage(0, 6), 1);
        check.is("held in the month 35", book.vintage(0, 1), 1);
        book.set(3, 3);
        check.is("vintage(0, 6) with the bank 3 again", book.vintage(0, 6), 13);
        book.set(3, 1);
        book.pass(1);
        check.is("vintage(0, 6) in the month 36", book.vintage(0, 6), -5);
        check.is("lost in the month 36", book.vintage(0, 4), 1);
    }

    private static void whatsOfAGrade() {
        check.sentence("Promise 23",
            "0 for the offsets that were issued, 1 for those that are held, 2 for those that were "
            + "surrendered");
        AllowanceBook book = Books.rich();
        whats("grade(2, ..)", 2, what -> book.grade(2, what));
        int[][] due = {{50, 50, 0}, {50, 50, 0}, {57, 51, 6}};
        for (int grade = 0; grade <= 2; grade++) {
            for (int what = 0; what <= 2; what++) {
                check.is("grade(" + grade + ", " + what + ")", book.grade(grade, what), due[grade][what]);
            }
        }
    }

    // ---- holder

    private static void holderThatHoldsTheMost() {
        check.sentence("Promise 24", "the one that holds the most first");
        AllowanceBook book = Check.withFirms(8);
        for (int firm = 0; firm < 8; firm++) {
            book.issue(firm, 1 + firm);
        }
        for (int place = 0; place < 8; place++) {
            check.is("holder(0, " + place + ")", book.holder(0, place), 7 - place);
        }
        book.issue(0, 7);
        check.is("holder(0, 0) of 8 and 8", book.holder(0, 0), 0);
        book.cancel(0, 0, 1);
        check.is("holder(0, 0) of 8 and 7", book.holder(0, 0), 7);
        check.is("holder(0, 1) of 8 and 7", book.holder(0, 1), 0);
    }

    private static void holderOfSeveral() {
        check.sentence("Promise 24", "of several the lowest number first");
        AllowanceBook book = Check.withFirms(8);
        for (int firm = 0; firm < 8; firm++) {
            book.issue(firm, 5);
        }
        for (int place = 0; place < 8; place++) {
            check.is("holder(0, " + place + ")", book.holder(0, place), place);
        }
        book.issue(3, 1);
        int[] due = {3, 0, 1, 2, 4, 5, 6, 7};
        for (int place = 0; place < 8; place++) {
            check.is("holder(0, " + place + ") when the firm 3 holds one more", book.holder(0, place), due[place]);
        }
    }

    private static void holderIfThereAreNotSoMany() {
        check.sentence("Promise 24", "NONE if there are not so many.");
        AllowanceBook book = Check.withFirms(8);
        for (int holders = 0; holders <= 8; holders++) {
            check.is("the holder that is one too far", book.holder(0, holders), -5);
            check.is("holder(0, MAX)", book.holder(0, MAX), -5);
            check.is("holder(19, 0)", book.holder(19, 0), -5);
            if (holders > 0) {
                check.is("the last holder", book.holder(0, holders - 1), holders - 1);
            }
            if (holders < 8) {
                book.issue(holders, 1);
            }
        }
    }

    private static void holderOfANegativePlace() {
        check.sentence("Promise 24", "BAD_VALUE if place is negative");
        AllowanceBook book = Check.withFirms(1);
        book.issue(0, 1);
        check.is("holder(0, MIN)", book.holder(0, MIN), -2);
        check.is("holder(0, -1)", book.holder(0, -1), -2);
        check.is("holder(0, 0)", book.holder(0, 0), 0);
        check.is("holder(1, -1) of none", book.holder(1, -1), -2);
    }

    // ---- plan

    private static void planTellsWhetherDueOrNot() {
        check.sentence("Promise 25", "Tells what a firm would surrender, whether so many are due or not.");
        AllowanceBook none = Check.withFirms(1);
        none.issue(0, 5);
        check.is("plan(0, 5, 0, 0) with nothing due", none.plan(0, 5, 0, 0), 5);
        check.is("surrender(0, 5, 0) with nothing due", none.surrender(0, 5, 0), -4);
        AllowanceBook book = Check.withBase(4);
        book.issue(0, 9);
        for (int tonnes = 3; tonnes <= 9; tonnes++) {
            check.is("plan(0, " + tonnes + ", 0, 0) with 4 due", book.plan(0, tonnes, 0, 0), tonnes);
        }
    }

    private static void whatsOfAPlan() {
        check.sentence("Promise 25", "0 for the allowances, 1 to 3 for the offsets of the grades 0 to 2");
        AllowanceBook book = Books.rich();
        whats("plan(0, 90, 2, ..)", 5, what -> book.plan(0, 90, 2, what));
        int[] tonnes = {1, 4, 5, 24, 25, 64, 65, 104, 105, 214};
        int[][] due = {{0, 0, 0, 1}, {0, 0, 0, 4}, {0, 0, 1, 4}, {0, 0, 20, 4}, {0, 1, 20, 4}, {0, 40, 20, 4},
            {1, 40, 20, 4}, {40, 40, 20, 4}, {41, 40, 20, 4}, {150, 40, 20, 4}};
        for (int i = 0; i < tonnes.length; i++) {
            for (int what = 0; what <= 3; what++) {
                check.is("plan(0, " + tonnes[i] + ", 2, " + what + ")", book.plan(0, tonnes[i], 2, what), due[i][what]);
            }
            if (tonnes[i] <= 150) {
                check.is("allowances in the way 0", book.plan(0, tonnes[i], 0, 0), tonnes[i]);
                check.is("offsets in the way 0", book.plan(0, tonnes[i], 0, 3), 0);
                check.is("allowances in the way 1", book.plan(0, tonnes[i], 1, 0), tonnes[i]);
                check.is("offsets in the way 1", book.plan(0, tonnes[i], 1, 3), 0);
            }
        }
    }

    private static void vintagesThatAreTouched() {
        check.sentence("Promise 25", "4 for the number of vintages that are touched");
        AllowanceBook book = Books.rich();
        int[] tonnes = {1, 40, 41, 90, 91, 150};
        int[] due = {1, 1, 2, 2, 3, 3};
        int[] tonnesOfNewest = {1, 60, 61, 110, 111, 150};
        int[] tonnesByOffsets = {64, 65, 104, 105, 154, 155};
        int[] dueByOffsets = {0, 1, 1, 2, 2, 3};
        for (int i = 0; i < tonnes.length; i++) {
            check.is("plan(0, " + tonnes[i] + ", 0, 4)", book.plan(0, tonnes[i], 0, 4), due[i]);
            check.is("plan(0, " + tonnesOfNewest[i] + ", 1, 4)", book.plan(0, tonnesOfNewest[i], 1, 4), due[i]);
            int byOffsets = tonnesByOffsets[i];
            check.is("plan(0, " + byOffsets + ", 2, 4)", book.plan(0, byOffsets, 2, 4), dueByOffsets[i]);
        }
        AllowanceBook gap = withVintages(17, 19);
        gap.cancel(0, 18, 1);
        check.is("plan(0, 2, 0, 4) over a vintage that is not held", gap.plan(0, 2, 0, 4), 2);
        check.is("plan(0, 2, 1, 4) over a vintage that is not held", gap.plan(0, 2, 1, 4), 2);
    }

    private static void vintageThatIsTouchedFirst() {
        check.sentence("Promise 25", "5 for the vintage that is touched first (NONE if none is)");
        AllowanceBook book = withVintages(17, 19);
        check.is("plan(0, 3, 0, 5)", book.plan(0, 3, 0, 5), 17);
        check.is("plan(0, 3, 1, 5)", book.plan(0, 3, 1, 5), 19);
        book.cancel(0, 17, 1);
        book.cancel(0, 19, 1);
        check.is("plan(0, 1, 0, 5) of one", book.plan(0, 1, 0, 5), 18);
        check.is("plan(0, 1, 1, 5) of one", book.plan(0, 1, 1, 5), 18);
        AllowanceBook first = withVintages(0, 0);
        check.is("plan(0, 1, 0, 5) of the vintage 0", first.plan(0, 1, 0, 5), 0);
        check.is("plan(0, 1, 1, 5) of the vintage 0", first.plan(0, 1, 1, 5), 0);
        AllowanceBook rich = Books.rich();
        check.is("plan(0, 64, 2, 5) by offsets alone", rich.plan(0, 64, 2, 5), -5);
        check.is("plan(0, 65, 2, 5) by one allowance", rich.plan(0, 65, 2, 5), 0);
    }

    private static void planOfTonnes() {
        check.sentence("Promise 25", "- `tonnes`: 1 to 9999");
        AllowanceBook book = Check.withFirms(1);
        book.issue(0, 9999);
        book.issue(0, 9999);
        int[] tonnes = {MIN, -1, 0, 1, 9999, 10000, MAX};
        int[] due = {-2, -2, -2, 1, 9999, -2, -2};
        for (int i = 0; i < tonnes.length; i++) {
            check.is("plan(0, " + tonnes[i] + ", 0, 0)", book.plan(0, tonnes[i], 0, 0), due[i]);
        }
    }

    private static void planOfWays() {
        check.sentence("Promise 25", "- `way`: 0 to 2");
        AllowanceBook book = withVintages(0, 1);
        int[] ways = {MIN, -1, 0, 1, 2, 3, MAX};
        int[] due = {-2, -2, 0, 1, 0, -2, -2};
        for (int i = 0; i < ways.length; i++) {
            check.is("plan(0, 1, " + ways[i] + ", 5)", book.plan(0, 1, ways[i], 5), due[i]);
        }
    }

    private static void planIfItHasNotSoMany() {
        check.sentence("Promise 25", "NOT_POSSIBLE if it has not so many by this way.");
        AllowanceBook book = Books.rich();
        int[] most = {150, 150, 214};
        for (int way = 0; way <= 2; way++) {
            for (int what = 0; what <= 5; what++) {
                boolean isError = book.plan(0, most[way], way, what) == -4;
                check.is("plan(0, " + most[way] + ", " + way + ", " + what + ") is an error", isError ? 1 : 0, 0);
                check.is("one more than it has", book.plan(0, most[way] + 1, way, what), -4);
                check.is("of nothing", book.plan(2, 1, way, what), -4);
            }
        }
    }

    // ---- count

    private static void whatsOfTheRegistry() {
        check.sentence("Promise 26", "Returns the number; BAD_VALUE.");
        AllowanceBook book = Books.rich();
        whats("count(..)", 14, book::count);
        int[] due = {29, 2, 3, 20, 10, 5, 2, 50, 227, 11650, 180, 0, 11, 4, 7};
        for (int what = 0; what < due.length; what++) {
            check.is("count(" + what + ")", book.count(what), due[what]);
        }
    }

    private static void allThatWereLost() {
        check.sentence("Promise 26", "11 for those that were lost");
        AllowanceBook book = Books.rich();
        int[] months = {29, 35, 36, 47, 48, 59, 60};
        int[] lost = {0, 0, 70, 70, 120, 120, 180};
        for (int i = 0; i < months.length; i++) {
            Check.passTo(book, months[i]);
            check.is("count(11) in the month " + months[i], book.count(11), lost[i]);
            check.is("count(10) in the month " + months[i], book.count(10), 180 - lost[i]);
        }
        book.undo();
        check.is("count(11) after undo()", book.count(11), 120);
    }

    private static void monthsUntilTheDeadline() {
        check.sentence("Promise 26", "12 for the months until the next deadline (1 to 12, or up to 16 in the year 0)");
        int[] months = {0, 1, 3, 4, 5, 11, 12, 15, 16, 17, 27, 28, 231, 232, 239};
        int[] due = {16, 15, 13, 12, 11, 5, 4, 1, 12, 11, 1, 12, 1, 12, 5};
        for (int i = 0; i < months.length; i++) {
            check.is("count(12) in the month " + months[i], Check.inMonth(1, months[i]).count(12), due[i]);
        }
        for (int month = 0; month <= 215; month++) {
            AllowanceBook book = Check.inMonth(1, Math.min(month, 11));
            book.report(0, 1);
            book.verify(0);
            Check.passTo(book, Math.max(month, 12));
            int ahead = book.count(12);
            check.is("coins before the deadline after the month " + month, ahead == 1 ? 0 : book.pass(ahead - 1), 0);
            check.is("coins at the deadline after the month " + month, book.pass(1), 50);
        }
    }
}
