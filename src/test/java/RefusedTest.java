import java.util.function.ToIntFunction;

/**
 * A call that returns an error or NONE: which of the errors that apply is returned (the order of the checks), and that
 * nothing changes by it. The number of errors that apply to a call stands in what it is called.
 */
final class RefusedTest {
    private static final Check check = new Check("refused calls");
    private static final int MIN = Integer.MIN_VALUE;
    private static final int MAX = Integer.MAX_VALUE;

    public static void main(String[] args) {
        unknownFirms();
        unknownFirmsOfTellings();
        unknownGradesAndVintages();
        addFirm();
        set();
        issue();
        issueOffsets();
        transfer();
        transferOffsets();
        cancel();
        report();
        verify();
        surrender();
        pass();
        type();
        readTransfers();
        undoAndRestore();
        tellings();
        plan();
        noneOnlyIfNoErrorApplies();
        tellingsThatAnswer();
        check.end();
    }

    private static void rich(String call, ToIntFunction<AllowanceBook> made, int due) {
        check.refused(call, Books::rich, made, due);
    }

    private static void unknownFirms() {
        check.sentence("Terms", "`UNKNOWN = -1`: There is no such firm, vintage or grade.");
        int[] firms = {MIN, -1, 3, 7, 8, MAX};
        for (int firm : firms) {
            String of = "(" + firm + ")";
            rich("issue" + of, book -> book.issue(firm, 1), -1);
            rich("issueOffsets" + of, book -> book.issueOffsets(firm, 0, 1), -1);
            rich("transfer from" + of, book -> book.transfer(firm, 0, 0, 1), -1);
            rich("transfer to" + of, book -> book.transfer(0, firm, 0, 1), -1);
            rich("transferOffsets from" + of, book -> book.transferOffsets(firm, 0, 0, 1), -1);
            rich("transferOffsets to" + of, book -> book.transferOffsets(0, firm, 0, 1), -1);
            rich("cancel" + of, book -> book.cancel(firm, 0, 1), -1);
            rich("report" + of, book -> book.report(firm, 1), -1);
            rich("verify" + of, book -> book.verify(firm), -1);
            rich("surrender" + of, book -> book.surrender(firm, 1, 0), -1);
        }
    }

    private static void unknownFirmsOfTellings() {
        check.sentence("Terms", "`UNKNOWN = -1`: There is no such firm, vintage or grade.");
        int[] firms = {MIN, -1, 3, 7, 8, MAX};
        for (int firm : firms) {
            String of = "(" + firm + ")";
            rich("firm" + of, book -> book.firm(firm, 2), -1);
            rich("holds" + of, book -> book.holds(firm, 0), -1);
            rich("offsets" + of, book -> book.offsets(firm, 0, 0), -1);
            rich("plan" + of, book -> book.plan(firm, 1, 0, 0), -1);
        }
    }

    private static void unknownGradesAndVintages() {
        check.sentence("Terms", "`UNKNOWN = -1`: There is no such firm, vintage or grade.");
        int[] grades = {MIN, -1, 3, MAX};
        for (int grade : grades) {
            String of = "(" + grade + ")";
            rich("issueOffsets of" + of, book -> book.issueOffsets(0, grade, 1), -1);
            rich("transferOffsets of" + of, book -> book.transferOffsets(0, 1, grade, 1), -1);
            rich("offsets of" + of, book -> book.offsets(0, grade, 0), -1);
            rich("grade" + of, book -> book.grade(grade, 0), -1);
        }
        int[] vintages = {MIN, -1, 20, MAX};
        for (int vintage : vintages) {
            String of = "(" + vintage + ")";
            rich("transfer of" + of, book -> book.transfer(0, 1, vintage, 1), -1);
            rich("cancel of" + of, book -> book.cancel(0, vintage, 1), -1);
            rich("holds of" + of, book -> book.holds(0, vintage), -1);
            rich("vintage" + of, book -> book.vintage(vintage, 0), -1);
            rich("holder" + of, book -> book.holder(vintage, 0), -1);
        }
    }

    private static void addFirm() {
        check.sentence("Promise 2", "Returns its number; FULL if there are 8.");
        check.refused("addFirm() for a ninth", Books::full, AllowanceBook::addFirm, -3);
    }

    private static void set() {
        check.sentence("Promise 3", "Returns the previous one; BAD_VALUE; NONE if it is so already.");
        int[] whats = {MIN, -1, 5, MAX};
        for (int what : whats) {
            rich("set(" + what + ", 2)", book -> book.set(what, 2), -2);
            rich("2 errors, set(" + what + ", -1)", book -> book.set(what, -1), -2);
        }
        int[] least = {0, 0, 0, 1, 0};
        int[] most = {100, 100, 100, 5, 99};
        int[] present = {20, 10, 5, 2, 50};
        for (int i = 0; i < 5; i++) {
            int what = i;
            rich("set(" + what + ", MIN)", book -> book.set(what, MIN), -2);
            rich("set(" + what + ", least - 1)", book -> book.set(what, least[what] - 1), -2);
            rich("set(" + what + ", most + 1)", book -> book.set(what, most[what] + 1), -2);
            rich("set(" + what + ", MAX)", book -> book.set(what, MAX), -2);
            rich("set(" + what + ", as it is)", book -> book.set(what, present[what]), -5);
        }
    }

    private static final int[] BAD_TONNES = {MIN, -1, 0, 10000, MAX};

    private static void issue() {
        check.sentence("Promise 4", "Returns what it holds of this vintage then; UNKNOWN; BAD_VALUE.");
        for (int tonnes : BAD_TONNES) {
            rich("issue(0, " + tonnes + ")", book -> book.issue(0, tonnes), -2);
            rich("2 errors, issue(-1, " + tonnes + ")", book -> book.issue(-1, tonnes), -1);
            rich("2 errors, issue(3, " + tonnes + ")", book -> book.issue(3, tonnes), -1);
        }
    }

    private static void issueOffsets() {
        check.sentence("Promise 5", "Returns what it holds of this grade then; UNKNOWN (firm or grade); BAD_VALUE.");
        for (int tonnes : BAD_TONNES) {
            rich("issueOffsets(0, 0, " + tonnes + ")", book -> book.issueOffsets(0, 0, tonnes), -2);
            rich("2 errors, issueOffsets(3, 0, " + tonnes + ")", book -> book.issueOffsets(3, 0, tonnes), -1);
            rich("2 errors, issueOffsets(0, 3, " + tonnes + ")", book -> book.issueOffsets(0, 3, tonnes), -1);
            rich("2 errors, issueOffsets(0, -1, " + tonnes + ")", book -> book.issueOffsets(0, -1, tonnes), -1);
        }
    }

    private static void transfer() {
        check.sentence("Promise 6",
            "UNKNOWN (from, to or vintage); BAD_VALUE (tonnes, or both firms are the same); NOT_POSSIBLE");
        for (int tonnes : BAD_TONNES) {
            rich("transfer(0, 1, 0, " + tonnes + ")", book -> book.transfer(0, 1, 0, tonnes), -2);
            rich("2 errors, transfer(3, 1, 0, " + tonnes + ")", book -> book.transfer(3, 1, 0, tonnes), -1);
            rich("2 errors, transfer(0, 3, 0, " + tonnes + ")", book -> book.transfer(0, 3, 0, tonnes), -1);
            rich("2 errors, transfer(0, 1, 20, " + tonnes + ")", book -> book.transfer(0, 1, 20, tonnes), -1);
            rich("2 errors, transfer(2, 1, 0, " + tonnes + ")", book -> book.transfer(2, 1, 0, tonnes), -2);
            rich("2 errors, transfer(0, 0, 0, " + tonnes + ")", book -> book.transfer(0, 0, 0, tonnes), -2);
        }
        rich("transfer(0, 0, 0, 1)", book -> book.transfer(0, 0, 0, 1), -2);
        rich("2 errors, transfer(3, 3, 0, 1)", book -> book.transfer(3, 3, 0, 1), -1);
        rich("2 errors, transfer(0, 0, -1, 1)", book -> book.transfer(0, 0, -1, 1), -1);
        rich("2 errors, transfer(0, 0, 0, 41)", book -> book.transfer(0, 0, 0, 41), -2);
        rich("2 errors, transfer(2, 3, 0, 1)", book -> book.transfer(2, 3, 0, 1), -1);
        rich("2 errors, transfer(0, 1, 20, 9999)", book -> book.transfer(0, 1, 20, 9999), -1);
        rich("transfer(0, 1, 0, 41)", book -> book.transfer(0, 1, 0, 41), -4);
        rich("transfer(0, 1, 3, 1)", book -> book.transfer(0, 1, 3, 1), -4);
        rich("transfer(2, 1, 0, 1)", book -> book.transfer(2, 1, 0, 1), -4);
    }

    private static void transferOffsets() {
        check.sentence("Promise 7",
            "UNKNOWN (from, to or grade); BAD_VALUE (tonnes, or both firms are the same); NOT_POSSIBLE");
        for (int tonnes : BAD_TONNES) {
            String of = ", " + tonnes + ")";
            rich("transferOffsets(0, 1, 0" + of, book -> book.transferOffsets(0, 1, 0, tonnes), -2);
            rich("2 errors, transferOffsets(3, 1, 0" + of, book -> book.transferOffsets(3, 1, 0, tonnes), -1);
            rich("2 errors, transferOffsets(0, 3, 0" + of, book -> book.transferOffsets(0, 3, 0, tonnes), -1);
            rich("2 errors, transferOffsets(0, 1, 3" + of, book -> book.transferOffsets(0, 1, 3, tonnes), -1);
            rich("2 errors, transferOffsets(2, 1, 0" + of, book -> book.transferOffsets(2, 1, 0, tonnes), -2);
            rich("2 errors, transferOffsets(0, 0, 0" + of, book -> book.transferOffsets(0, 0, 0, tonnes), -2);
        }
        rich("transferOffsets(0, 0, 0, 1)", book -> book.transferOffsets(0, 0, 0, 1), -2);
        rich("2 errors, transferOffsets(3, 3, 0, 1)", book -> book.transferOffsets(3, 3, 0, 1), -1);
        rich("2 errors, transferOffsets(0, 0, -1, 1)", book -> book.transferOffsets(0, 0, -1, 1), -1);
        rich("2 errors, transferOffsets(0, 0, 0, 51)", book -> book.transferOffsets(0, 0, 0, 51), -2);
        rich("2 errors, transferOffsets(2, 3, 0, 1)", book -> book.transferOffsets(2, 3, 0, 1), -1);
        rich("transferOffsets(0, 1, 0, 51)", book -> book.transferOffsets(0, 1, 0, 51), -4);
        rich("transferOffsets(1, 0, 1, 1)", book -> book.transferOffsets(1, 0, 1, 1), -4);
        rich("transferOffsets(2, 1, 0, 1)", book -> book.transferOffsets(2, 1, 0, 1), -4);
    }

    private static void cancel() {
        check.sentence("Promise 8", "UNKNOWN (firm or vintage); BAD_VALUE; NOT_POSSIBLE if it does not hold so many.");
        for (int tonnes : BAD_TONNES) {
            rich("cancel(0, 0, " + tonnes + ")", book -> book.cancel(0, 0, tonnes), -2);
            rich("2 errors, cancel(3, 0, " + tonnes + ")", book -> book.cancel(3, 0, tonnes), -1);
            rich("2 errors, cancel(0, 20, " + tonnes + ")", book -> book.cancel(0, 20, tonnes), -1);
            rich("2 errors, cancel(2, 0, " + tonnes + ")", book -> book.cancel(2, 0, tonnes), -2);
        }
        rich("cancel(0, 0, 41)", book -> book.cancel(0, 0, 41), -4);
        rich("cancel(0, 3, 1)", book -> book.cancel(0, 3, 1), -4);
        rich("2 errors, cancel(3, 0, 41)", book -> book.cancel(3, 0, 41), -1);
        rich("2 errors, cancel(0, -1, 41)", book -> book.cancel(0, -1, 41), -1);
    }

    private static void report() {
        check.sentence("Promise 9", "UNKNOWN; BAD_VALUE; FULL if what it has reported this year, verified or not,");
        for (int tonnes : BAD_TONNES) {
            rich("report(0, " + tonnes + ")", book -> book.report(0, tonnes), -2);
            rich("2 errors, report(3, " + tonnes + ")", book -> book.report(3, tonnes), -1);
        }
        check.refused("report(0, 1) of 9999", Books::full, book -> book.report(0, 1), -3);
        check.refused("report(0, 9999) of 9999", Books::full, book -> book.report(0, 9999), -3);
        check.refused("2 errors, report(0, 10000) of 9999", Books::full, book -> book.report(0, 10000), -2);
        check.refused("2 errors, report(0, MAX) of 9999", Books::full, book -> book.report(0, MAX), -2);
        rich("report(0, 9922) of 78", book -> book.report(0, 9922), -3);
    }

    private static void verify() {
        check.sentence("Promise 10", "UNKNOWN; NONE if nothing is reported that is not verified.");
        rich("verify(1) when all is verified", book -> book.verify(1), -5);
        rich("verify(2) when nothing is reported", book -> book.verify(2), -5);
        check.refused("verify(0) again", Books::late, book -> book.verify(0), -5);
    }

    private static void surrender() {
        check.sentence("Promise 11",
            "UNKNOWN; BAD_VALUE; NOT_POSSIBLE if not so many are due, or it has not so many by this way.");
        for (int tonnes : BAD_TONNES) {
            rich("surrender(0, " + tonnes + ", 0)", book -> book.surrender(0, tonnes, 0), -2);
            rich("2 errors, surrender(3, " + tonnes + ", 0)", book -> book.surrender(3, tonnes, 0), -1);
            rich("2 errors, surrender(0, " + tonnes + ", 3)", book -> book.surrender(0, tonnes, 3), -2);
            rich("2 errors, surrender(2, " + tonnes + ", 0)", book -> book.surrender(2, tonnes, 0), -2);
        }
        int[] badWays = {MIN, -1, 3, MAX};
        for (int way : badWays) {
            rich("surrender(0, 1, " + way + ")", book -> book.surrender(0, 1, way), -2);
            rich("2 errors, surrender(3, 1, " + way + ")", book -> book.surrender(3, 1, way), -1);
            rich("2 errors, surrender(0, 9999, " + way + ")", book -> book.surrender(0, 9999, way), -2);
            rich("2 errors, surrender(2, 1, " + way + ")", book -> book.surrender(2, 1, way), -2);
        }
        for (int i = 0; i <= 2; i++) {
            int way = i;
            rich("2 errors, surrender(3, 9999, " + way + ")", book -> book.surrender(3, 9999, way), -1);
            rich("surrender(0, 195, " + way + ") of 194", book -> book.surrender(0, 195, way), -4);
            rich("surrender(2, 1, " + way + ") of 0", book -> book.surrender(2, 1, way), -4);
            String call = "surrender(0, 351, " + way + ") of 350";
            check.refused(call, Books::late, book -> book.surrender(0, 351, way), -4);
        }
        rich("surrender(0, 151, 0) with 150", book -> book.surrender(0, 151, 0), -4);
        rich("surrender(0, 151, 1) with 150", book -> book.surrender(0, 151, 1), -4);
        check.refused("surrender(0, 1, 2) with nothing", () -> Check.withBase(9), book -> book.surrender(0, 1, 2), -4);
    }

    private static void pass() {
        check.sentence("Promise 12", "BAD_VALUE; NOT_POSSIBLE if the month would become more than 239.");
        int[] badMonths = {MIN, -1, 0, 25, MAX};
        for (int months : badMonths) {
            rich("pass(" + months + ")", book -> book.pass(months), -2);
            check.refused("pass(" + months + ") late", Books::late, book -> book.pass(months), -2);
        }
        check.refused("pass(2) in the month 238", Books::late, book -> book.pass(2), -4);
        check.refused("pass(24) in the month 238", Books::late, book -> book.pass(24), -4);
    }

    private static void type() {
        check.sentence("Promise 13", "Returns the length of the text then; FULL if it has 60 characters.");
        check.refused("type('1') for a 61st", Books::full, book -> book.type('1'), -3);
        check.refused("type((char) 0) for a 61st", Books::full, book -> book.type((char) 0), -3);
    }

    private static AllowanceBook withText(String text) {
        AllowanceBook book = Books.rich();
        Check.write(book, text);
        return book;
    }

    private static void text(String text, int due) {
        check.refused("readTransfers() of " + text, () -> withText(text), AllowanceBook::readTransfers, due);
    }

    private static void readTransfers() {
        check.sentence("Promise 15", "all of them, or none");
        text("", -100);
        text("0>1:0*5;", -108);
        text("0>1:0*5;1>0:0*5x", -115);
        text("0>1:0*41", -4);
        text("0>1:0*5;0>1:0*36", -4);
        text("0>1:0*5;0>0:0*5", -2);
        text("0>1:0*5;0>3:0*5", -1);
        text("0>1:0*5;0>1:20*5", -1);
        text("3>3:0*1", -1);
        text("0>0:0*9999", -2);
        text("0>3:0*9999", -1);
        text("0>0:20*1", -1);
        text("3>0:0*1;", -108);
        text("0>0:0*1;0>3:0*1;0>1:0*9999", -2);
        check.refused("readTransfers() of a full text", Books::full, AllowanceBook::readTransfers, -160);
    }

    private static void undoAndRestore() {
        check.sentence("Terms", "A call that returns an error or NONE changes nothing.");
        check.refused("undo() of a new one", AllowanceBook::new, AllowanceBook::undo, -5);
        check.refused("restore() of a new one", AllowanceBook::new, AllowanceBook::restore, -5);
        check.refused("restore() without a snapshot", Books::late, AllowanceBook::restore, -5);
        check.refused("undo() of an empty history", RefusedTest::emptied, AllowanceBook::undo, -5);
    }

    private static AllowanceBook emptied() {
        AllowanceBook book = Books.rich();
        for (int i = 0; i < 4; i++) {
            book.undo();
        }
        return book;
    }

    private static void tellings() {
        check.sentence("Terms",
            "Where several errors can apply, the order of the @return line is the order of the checks.");
        int[] bad = {MIN, -1, 11, MAX};
        for (int what : bad) {
            rich("firm(0, " + what + ")", book -> book.firm(0, what), -2);
            rich("2 errors, firm(2, " + what + ")", book -> book.firm(2, what), -2);
            rich("2 errors, firm(3, " + what + ")", book -> book.firm(3, what), -1);
            rich("offsets(0, 0, " + what + ")", book -> book.offsets(0, 0, what), -2);
            rich("2 errors, offsets(3, 0, " + what + ")", book -> book.offsets(3, 0, what), -1);
            rich("2 errors, offsets(0, 3, " + what + ")", book -> book.offsets(0, 3, what), -1);
            rich("vintage(0, " + what + ")", book -> book.vintage(0, what), -2);
            rich("2 errors, vintage(9, " + what + ")", book -> book.vintage(9, what), -2);
            rich("2 errors, vintage(20, " + what + ")", book -> book.vintage(20, what), -1);
            rich("grade(0, " + what + ")", book -> book.grade(0, what), -2);
            rich("2 errors, grade(3, " + what + ")", book -> book.grade(3, what), -1);
        }
        rich("2 errors, holds(3, 20)", book -> book.holds(3, 20), -1);
        rich("firm(2, 2)", book -> book.firm(2, 2), -5);
        rich("firm(2, 3)", book -> book.firm(2, 3), -5);
        rich("vintage(9, 6)", book -> book.vintage(9, 6), -5);
        rich("holder(0, -1)", book -> book.holder(0, -1), -2);
        rich("holder(0, MIN)", book -> book.holder(0, MIN), -2);
        rich("2 errors, holder(9, -1)", book -> book.holder(9, -1), -2);
        rich("2 errors, holder(20, -1)", book -> book.holder(20, -1), -1);
        rich("2 errors, holder(-1, 9)", book -> book.holder(-1, 9), -1);
        rich("holder(0, 2)", book -> book.holder(0, 2), -5);
        rich("holder(0, MAX)", book -> book.holder(0, MAX), -5);
        rich("count(-1)", book -> book.count(-1), -2);
        rich("count(15)", book -> book.count(15), -2);
    }

    private static void plan() {
        check.sentence("Promise 25",
            "Returns the number; UNKNOWN; BAD_VALUE; NOT_POSSIBLE if it has not so many by this way.");
        for (int tonnes : BAD_TONNES) {
            rich("plan(0, " + tonnes + ", 0, 0)", book -> book.plan(0, tonnes, 0, 0), -2);
            rich("2 errors, plan(3, " + tonnes + ", 0, 0)", book -> book.plan(3, tonnes, 0, 0), -1);
            rich("2 errors, plan(2, " + tonnes + ", 0, 0)", book -> book.plan(2, tonnes, 0, 0), -2);
        }
        int[] badWays = {MIN, -1, 3, MAX};
        for (int way : badWays) {
            rich("plan(0, 1, " + way + ", 0)", book -> book.plan(0, 1, way, 0), -2);
            rich("2 errors, plan(3, 1, " + way + ", 0)", book -> book.plan(3, 1, way, 0), -1);
            rich("2 errors, plan(2, 1, " + way + ", 0)", book -> book.plan(2, 1, way, 0), -2);
        }
        int[] badWhats = {MIN, -1, 6, MAX};
        for (int what : badWhats) {
            rich("plan(0, 1, 0, " + what + ")", book -> book.plan(0, 1, 0, what), -2);
            rich("2 errors, plan(3, 1, 0, " + what + ")", book -> book.plan(3, 1, 0, what), -1);
            rich("2 errors, plan(2, 1, 0, " + what + ")", book -> book.plan(2, 1, 0, what), -2);
            rich("2 errors, plan(0, 9999, 0, " + what + ")", book -> book.plan(0, 9999, 0, what), -2);
        }
        rich("2 errors, plan(3, 9999, 0, 0)", book -> book.plan(3, 9999, 0, 0), -1);
        rich("plan(0, 151, 0, 0)", book -> book.plan(0, 151, 0, 0), -4);
        rich("plan(0, 151, 1, 0)", book -> book.plan(0, 151, 1, 0), -4);
        rich("2 errors, plan(0, 9999, 2, 5)", book -> book.plan(0, 9999, 2, 5), -4);
        rich("plan(2, 1, 2, 5)", book -> book.plan(2, 1, 2, 5), -4);
        rich("plan(0, 1, 2, 5)", book -> book.plan(0, 1, 2, 5), -5);
    }

    private static void noneOnlyIfNoErrorApplies() {
        check.sentence("Terms", "NONE is no error; it is returned only if no error applies.");
        rich("verify(3) that has reported nothing", book -> book.verify(3), -1);
        rich("firm(3, 2) that holds none", book -> book.firm(3, 2), -1);
        rich("firm(2, 11) that holds none", book -> book.firm(2, 11), -2);
        rich("vintage(20, 6) of which none is held", book -> book.vintage(20, 6), -1);
        rich("vintage(9, 7) of which none is held", book -> book.vintage(9, 7), -2);
        rich("holder(20, 0) of which none is held", book -> book.holder(20, 0), -1);
        rich("holder(9, -1) of which none is held", book -> book.holder(9, -1), -2);
        rich("plan(3, 1, 2, 5)", book -> book.plan(3, 1, 2, 5), -1);
        rich("plan(0, 0, 2, 5)", book -> book.plan(0, 0, 2, 5), -2);
        rich("plan(2, 1, 2, 5)", book -> book.plan(2, 1, 2, 5), -4);
        check.refused("plan(0, 6, 2, 5) of 5", RefusedTest::offsetsAlone, book -> book.plan(0, 6, 2, 5), -4);
        check.refused("plan(0, 5, 2, 5) of 5", RefusedTest::offsetsAlone, book -> book.plan(0, 5, 2, 5), -5);
    }

    private static AllowanceBook offsetsAlone() {
        AllowanceBook book = Check.withBase(100);
        book.issueOffsets(0, 2, 9);
        return book;
    }

    /** What is told is no act, and changes nothing either. */
    private static void tellingsThatAnswer() {
        check.sentence("Terms", "Each call of a method that is described as an act");
        check.changesNothing("firm(0, 10)", Books::rich, book -> book.firm(0, 10));
        check.changesNothing("holds(0, 0)", Books::rich, book -> book.holds(0, 0));
        check.changesNothing("offsets(0, 0, 1)", Books::rich, book -> book.offsets(0, 0, 1));
        check.changesNothing("vintage(0, 6)", Books::rich, book -> book.vintage(0, 6));
        check.changesNothing("grade(0, 1)", Books::rich, book -> book.grade(0, 1));
        check.changesNothing("holder(0, 0)", Books::rich, book -> book.holder(0, 0));
        for (int i = 0; i <= 2; i++) {
            int way = i;
            check.changesNothing("plan(0, 150, " + way + ", 0)", Books::rich, book -> book.plan(0, 150, way, 0));
        }
        for (int i = 0; i <= 14; i++) {
            int what = i;
            check.changesNothing("count(" + what + ")", Books::rich, book -> book.count(what));
        }
    }
}
