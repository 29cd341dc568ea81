/** Promises 19 to 26: firm, holds, offsets, vintage, grade, holder, plan, count. */
final class TellingTest {
    private static final Check check = new Check("what is told");
    private static final int[] NO_FIRMS = {-1, 3, 8, Integer.MIN_VALUE, Integer.MAX_VALUE};
    private static final int[] NO_VINTAGES = {-1, 20, Integer.MIN_VALUE, Integer.MAX_VALUE};
    private static final int[] NO_GRADES = {-1, 3, Integer.MIN_VALUE, Integer.MAX_VALUE};

    public static void main(String[] args) {
        AllowanceBook book = example();
        tellsFirm(book);
        tellsOldestAndNewest();
        tellsDueAtBest();
        tellsHolds(book);
        tellsOffsets(book);
        roundsDownWhatMayBeUsed();
        tellsVintage(book);
        tellsMonthsUntilLost();
        tellsGrade(book);
        tellsHolder();
        tellsPlan(book);
        refusesPlan(book);
        tellsCount(book);
        tellsDeadline();
        tellingIsNoAct(book);
        check.end();
    }

    /** Three firms in the month 29; firm 0 holds 40, 60 and 80 of the vintages 0 to 2. */
    private static AllowanceBook example() {
        AllowanceBook book = Check.withFirms(3);
        book.issue(0, 100);
        book.issue(1, 30);
        book.report(0, 50);
        book.verify(0);
        book.pass(12);
        book.issue(0, 60);
        book.cancel(0, 0, 10);
        book.surrender(0, 50, 0);
        book.report(0, 180);
        book.report(1, 30);
        book.verify(0);
        book.report(0, 20);
        book.pass(12);
        book.issue(0, 80);
        book.issueOffsets(0, 0, 100);
        book.issueOffsets(0, 1, 15);
        book.issueOffsets(0, 2, 100);
        book.issueOffsets(1, 2, 7);
        book.surrender(0, 4, 2);
        book.report(0, 70);
        book.verify(0);
        book.report(0, 5);
        book.pass(5);
        return book;
    }

    private static void tellsFirm(AllowanceBook book) {
        int[] due = {180, 3, 0, 2, 5, 70, 202, 198, 54, 9900, 0};
        int[] dueOfLast = {0, 0, -5, -5, 0, 0, 0, 0, 0, 0, 0};
        for (int what = 0; what <= 10; what++) {
            check.is("firm(0, " + what + ")", book.firm(0, what), due[what]);
            check.is("firm(2, " + what + ")", book.firm(2, what), dueOfLast[what]);
        }
        for (int firm : NO_FIRMS) {
            check.is("firm(" + firm + ", 0)", book.firm(firm, 0), -1);
            check.is("firm(" + firm + ", 11)", book.firm(firm, 11), -1);
        }
        int[] bad = {-1, 11, Integer.MIN_VALUE, Integer.MAX_VALUE};
        for (int what : bad) {
            check.is("firm(0, " + what + ")", book.firm(0, what), -2);
        }
    }

    private static void tellsOldestAndNewest() {
        AllowanceBook book = Check.withFirms(2);
        book.issue(0, 1);
        int[] dueOfFirst = {1, 1, 0, 0};
        for (int what = 0; what <= 3; what++) {
            check.is("firm(0, " + what + ") of one tonne", book.firm(0, what), dueOfFirst[what]);
        }
        for (int i = 0; i < 9; i++) {
            book.pass(24);
        }
        book.issue(0, 1);
        book.pass(12);
        book.issue(0, 1);
        book.issue(1, 1);
        int[] due = {2, 2, 18, 19};
        int[] dueOfOther = {1, 1, 19, 19};
        for (int what = 0; what <= 3; what++) {
            check.is("firm(0, " + what + ") late", book.firm(0, what), due[what]);
            check.is("firm(1, " + what + ") late", book.firm(1, what), dueOfOther[what]);
        }
    }

    private static void tellsDueAtBest() {
        AllowanceBook book = Check.withFirms(1);
        book.report(0, 100);
        book.verify(0);
        book.pass(12);
        check.is("with nothing", book.firm(0, 10), 100);
        book.issueOffsets(0, 0, 50);
        check.is("with the grade 0", book.firm(0, 10), 80);
        book.issueOffsets(0, 1, 3);
        check.is("with few of the grade 1", book.firm(0, 10), 77);
        book.issueOffsets(0, 2, 9);
        check.is("with the grade 2", book.firm(0, 10), 72);
        book.issue(0, 70);
        check.is("with allowances", book.firm(0, 10), 2);
        book.surrender(0, 90, 2);
        check.is("after a surrender", book.firm(0, 10), 2);
        book.issue(0, 3);
        check.is("with more than is due", book.firm(0, 10), 0);
    }

    private static void tellsHolds(AllowanceBook book) {
        int[] due = {40, 60, 80};
        for (int vintage = 0; vintage < 20; vintage++) {
            check.is("holds(0, " + vintage + ")", book.holds(0, vintage), vintage < 3 ? due[vintage] : 0);
        }
        check.is("holds(1, 0)", book.holds(1, 0), 30);
        for (int firm : NO_FIRMS) {
            check.is("holds(" + firm + ", 0)", book.holds(firm, 0), -1);
        }
        for (int vintage : NO_VINTAGES) {
            check.is("holds(0, " + vintage + ")", book.holds(0, vintage), -1);
        }
    }

    private static void tellsOffsets(AllowanceBook book) {
        int[] held = {100, 15, 96};
        int[] mayUse = {40, 20, 6};
        int[] used = {0, 0, 4};
        for (int grade = 0; grade < 3; grade++) {
            check.is("offsets(0, grade, 0)", book.offsets(0, grade, 0), held[grade]);
            check.is("offsets(0, grade, 1)", book.offsets(0, grade, 1), mayUse[grade]);
            check.is("offsets(0, grade, 2)", book.offsets(0, grade, 2), used[grade]);
        }
        for (int firm : NO_FIRMS) {
            check.is("offsets(" + firm + ", 0, 9)", book.offsets(firm, 0, 9), -1);
        }
        for (int grade : NO_GRADES) {
            check.is("offsets(0, " + grade + ", 9)", book.offsets(0, grade, 9), -1);
        }
        int[] bad = {-1, 3, Integer.MIN_VALUE, Integer.MAX_VALUE};
        for (int what : bad) {
            check.is("offsets(0, 0, " + what + ")", book.offsets(0, 0, what), -2);
        }
    }

    private static void roundsDownWhatMayBeUsed() {
        AllowanceBook book = Check.withFirms(1);
        book.report(0, 119);
        book.verify(0);
        book.pass(12);
        int[] limits = {0, 1, 5, 50, 84, 85, 99, 100};
        int[] due = {0, 1, 5, 59, 99, 101, 117, 119};
        for (int i = 0; i < limits.length; i++) {
            book.set(2, limits[i]);
            check.is("offsets(0, 2, 1) of " + limits[i] + " percent", book.offsets(0, 2, 1), due[i]);
        }
        check.is("offsets(0, 0, 1) of another limit", book.offsets(0, 0, 1), 23);
    }

    private static void tellsVintage(AllowanceBook book) {
        int[][] due = {{130, 70, 50, 10, 0, 2, 19}, {60, 60, 0, 0, 0, 1, 31}, {80, 80, 0, 0, 0, 1, 43},
            {0, 0, 0, 0, 0, 0, -5}};
        for (int vintage = 0; vintage < 4; vintage++) {
            for (int what = 0; what <= 6; what++) {
                check.is("vintage(" + vintage + ", " + what + ")", book.vintage(vintage, what), due[vintage][what]);
            }
        }
        check.is("vintage(19, 0)", book.vintage(19, 0), 0);
        for (int vintage : NO_VINTAGES) {
            check.is("vintage(" + vintage + ", 7)", book.vintage(vintage, 7), -1);
        }
        int[] bad = {-1, 7, Integer.MIN_VALUE, Integer.MAX_VALUE};
        for (int what : bad) {
            check.is("vintage(0, " + what + ")", book.vintage(0, what), -2);
        }
    }

    private static void tellsMonthsUntilLost() {
        AllowanceBook book = Check.withFirms(1);
        check.is("of none", book.vintage(0, 6), -5);
        book.issue(0, 5);
        check.is("with the bank 3", book.vintage(0, 6), 48);
        book.set(3, 1);
        check.is("with the bank 1", book.vintage(0, 6), 24);
        book.set(3, 5);
        check.is("with the bank 5", book.vintage(0, 6), 72);
        book.pass(24);
        book.pass(3);
        check.is("in the month 27", book.vintage(0, 6), 45);
        book.set(3, 2);
        check.is("in its last year", book.vintage(0, 6), 9);
        book.set(3, 1);
        check.is("too old already", book.vintage(0, 6), 9);
        book.pass(8);
        check.is("too old, in the month 35", book.vintage(0, 6), 1);
        book.pass(1);
        check.is("lost", book.vintage(0, 6), -5);
        for (int i = 0; i < 8; i++) {
            book.pass(24);
        }
        book.pass(11);
        book.issue(0, 5);
        check.is("beyond the last month", book.vintage(19, 6), 13);
    }

    private static void tellsGrade(AllowanceBook book) {
        int[][] due = {{100, 100, 0}, {15, 15, 0}, {107, 103, 4}};
        for (int grade = 0; grade < 3; grade++) {
            for (int what = 0; what < 3; what++) {
                check.is("grade(" + grade + ", " + what + ")", book.grade(grade, what), due[grade][what]);
            }
        }
        for (int grade : NO_GRADES) {
            check.is("grade(" + grade + ", 3)", book.grade(grade, 3), -1);
        }
        int[] bad = {-1, 3, Integer.MIN_VALUE, Integer.MAX_VALUE};
        for (int what : bad) {
            check.is("grade(0, " + what + ")", book.grade(0, what), -2);
        }
    }

    private static void tellsHolder() {
        AllowanceBook book = Check.withFirms(8);
        check.is("of none", book.holder(0, 0), -5);
        int[] held = {5, 0, 9, 5, 1, 9, 5, 10};
        for (int firm = 0; firm < 8; firm++) {
            book.issue(firm, held[firm]);
        }
        int[] due = {7, 2, 5, 0, 3, 6, 4, -5, -5};
        for (int place = 0; place < due.length; place++) {
            check.is("holder(0, " + place + ")", book.holder(0, place), due[place]);
            check.is("holder(1, " + place + ")", book.holder(1, place), -5);
        }
        check.is("holders", book.vintage(0, 5), 7);
        check.is("holder(0, MAX)", book.holder(0, Integer.MAX_VALUE), -5);
        check.is("holder(0, -1)", book.holder(0, -1), -2);
        check.is("holder(0, MIN)", book.holder(0, Integer.MIN_VALUE), -2);
        for (int vintage : NO_VINTAGES) {
            check.is("holder(" + vintage + ", 0)", book.holder(vintage, 0), -1);
            check.is("holder(" + vintage + ", -1)", book.holder(vintage, -1), -1);
        }
    }

    private static void plans(AllowanceBook book, int tonnes, int way, int[] due) {
        for (int what = 0; what <= 5; what++) {
            String call = "plan(0, " + tonnes + ", " + way + ", " + what + ")";
            check.is(call, book.plan(0, tonnes, way, what), due[what]);
        }
    }

    private static void tellsPlan(AllowanceBook book) {
        plans(book, 1, 0, new int[] {1, 0, 0, 0, 1, 0});
        plans(book, 40, 0, new int[] {40, 0, 0, 0, 1, 0});
        plans(book, 41, 0, new int[] {41, 0, 0, 0, 2, 0});
        plans(book, 180, 0, new int[] {180, 0, 0, 0, 3, 0});
        plans(book, 80, 1, new int[] {80, 0, 0, 0, 1, 2});
        plans(book, 81, 1, new int[] {81, 0, 0, 0, 2, 2});
        plans(book, 180, 1, new int[] {180, 0, 0, 0, 3, 2});
        plans(book, 6, 2, new int[] {0, 0, 0, 6, 0, -5});
        plans(book, 21, 2, new int[] {0, 0, 15, 6, 0, -5});
        plans(book, 60, 2, new int[] {0, 39, 15, 6, 0, -5});
        plans(book, 62, 2, new int[] {1, 40, 15, 6, 1, 0});
        plans(book, 241, 2, new int[] {180, 40, 15, 6, 3, 0});
        check.is("plan(0, 181, 0, 0)", book.plan(0, 181, 0, 0), -4);
        check.is("plan(0, 181, 1, 0)", book.plan(0, 181, 1, 0), -4);
        check.is("plan(0, 242, 2, 5)", book.plan(0, 242, 2, 5), -4);
        check.is("plan(2, 1, 2, 5)", book.plan(2, 1, 2, 5), -4);
        check.is("plan for what is not due", book.plan(1, 30, 0, 0), 30);
    }

    private static void refusesPlan(AllowanceBook book) {
        for (int firm : NO_FIRMS) {
            check.is("plan(" + firm + ", 0, 9, 9)", book.plan(firm, 0, 9, 9), -1);
        }
        int[] badTonnes = {0, -1, 10000, Integer.MIN_VALUE, Integer.MAX_VALUE};
        for (int tonnes : badTonnes) {
            check.is("plan(0, " + tonnes + ", 0, 0)", book.plan(0, tonnes, 0, 0), -2);
        }
        int[] badWays = {-1, 3, Integer.MIN_VALUE, Integer.MAX_VALUE};
        for (int way : badWays) {
            check.is("plan(0, 9999, " + way + ", 0)", book.plan(0, 9999, way, 0), -2);
        }
        int[] badWhats = {-1, 6, Integer.MIN_VALUE, Integer.MAX_VALUE};
        for (int what : badWhats) {
            check.is("plan(0, 1, 0, " + what + ")", book.plan(0, 1, 0, what), -2);
            check.is("plan(0, 9999, 0, " + what + ")", book.plan(0, 9999, 0, what), -2);
        }
        check.is("plan(0, 9999, 0, 0)", book.plan(0, 9999, 0, 0), -4);
    }

    private static void tellsCount(AllowanceBook book) {
        int[] due = {29, 2, 3, 20, 10, 5, 3, 50, 231, 11550, 210, 0, 11, 4, 0};
        for (int what = 0; what < due.length; what++) {
            check.is("count(" + what + ")", book.count(what), due[what]);
        }
        int[] bad = {-1, 15, Integer.MIN_VALUE, Integer.MAX_VALUE};
        for (int what : bad) {
            check.is("count(" + what + ")", book.count(what), -2);
        }
        book.pass(24);
        check.is("lost", book.count(11), 70);
        check.is("lost of the vintage 0", book.vintage(0, 4), 70);
        book.undo();
    }

    private static void tellsDeadline() {
        for (int month = 0; month <= 239; month++) {
            AllowanceBook book = Check.inMonth(0, month);
            int deadline = 16;
            while (deadline <= month) {
                deadline += 12;
            }
            check.is("count(12) in the month " + month, book.count(12), deadline - month);
            check.is("count(1) in the month " + month, book.count(1), month / 12);
        }
    }

    private static void tellingIsNoAct(AllowanceBook book) {
        int states = book.count(13);
        book.firm(0, 10);
        book.holds(0, 0);
        book.offsets(0, 0, 0);
        book.vintage(0, 0);
        book.grade(0, 0);
        book.holder(0, 0);
        book.plan(0, 10, 2, 0);
        book.count(0);
        check.is("states after telling", book.count(13), states);
        check.is("firm(0, 0) after telling", book.firm(0, 0), 180);
        check.is("offsets(0, 2, 2) after telling", book.offsets(0, 2, 2), 4);
    }
}
