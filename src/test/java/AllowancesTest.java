/** Promises 4 to 8: issue, issueOffsets, transfer, transferOffsets, cancel. */
final class AllowancesTest {
    private static final Check check = new Check("allowances and offsets");
    private static final int[] BAD_TONNES = {0, -1, 10000, Integer.MIN_VALUE, Integer.MAX_VALUE};
    private static final int[] NO_FIRMS = {-1, 2, 7, 8, Integer.MIN_VALUE, Integer.MAX_VALUE};
    private static final int[] NO_VINTAGES = {-1, 20, Integer.MIN_VALUE, Integer.MAX_VALUE};
    private static final int[] NO_GRADES = {-1, 3, Integer.MIN_VALUE, Integer.MAX_VALUE};

    public static void main(String[] args) {
        issues();
        issuesOfLateYears();
        issuesOffsets();
        transfers();
        transfersOffsets();
        cancels();
        check.end();
    }

    private static void issues() {
        AllowanceBook book = Check.withFirms(2);
        check.is("issue(0, 1)", book.issue(0, 1), 1);
        check.is("issue(0, 9999)", book.issue(0, 9999), 10000);
        check.is("issue(1, 7)", book.issue(1, 7), 7);
        check.is("issued", book.vintage(0, 0), 10007);
        check.is("states", book.count(13), 4);
        book.undo();
        check.is("holds after undo", book.holds(1, 0), 0);
        check.is("issued after undo", book.vintage(0, 0), 10000);
        int states = book.count(13);
        for (int firm : NO_FIRMS) {
            check.is("issue(" + firm + ", 0)", book.issue(firm, 0), -1);
            check.is("issue(" + firm + ", 1)", book.issue(firm, 1), -1);
        }
        for (int tonnes : BAD_TONNES) {
            check.is("issue(0, " + tonnes + ")", book.issue(0, tonnes), -2);
        }
        check.is("issued after errors", book.vintage(0, 0), 10000);
        check.is("states after errors", book.count(13), states);
    }

    private static void issuesOfLateYears() {
        AllowanceBook book = Check.withFirms(1);
        book.pass(11);
        check.is("issue in the month 11", book.issue(0, 5), 5);
        book.pass(1);
        check.is("issue in the month 12", book.issue(0, 6), 6);
        check.is("holds(0, 0)", book.holds(0, 0), 5);
        check.is("holds(0, 1)", book.holds(0, 1), 6);
        for (int i = 0; i < 9; i++) {
            book.pass(24);
        }
        book.pass(11);
        check.is("month", book.count(0), 239);
        check.is("issue in the month 239", book.issue(0, 8), 8);
        check.is("holds(0, 19)", book.holds(0, 19), 8);
    }

    private static void issuesOffsets() {
        AllowanceBook book = Check.withFirms(2);
        check.is("issueOffsets(0, 0, 1)", book.issueOffsets(0, 0, 1), 1);
        check.is("issueOffsets(0, 2, 9999)", book.issueOffsets(0, 2, 9999), 9999);
        check.is("issueOffsets(0, 2, 3)", book.issueOffsets(0, 2, 3), 10002);
        check.is("issueOffsets(1, 2, 4)", book.issueOffsets(1, 2, 4), 4);
        check.is("grade(2, 0)", book.grade(2, 0), 10006);
        check.is("grade(0, 0)", book.grade(0, 0), 1);
        check.is("grade(1, 0)", book.grade(1, 0), 0);
        check.is("offsets(0, 2, 0)", book.offsets(0, 2, 0), 10002);
        check.is("allowances", book.firm(0, 0), 0);
        book.undo();
        check.is("grade(2, 0) after undo", book.grade(2, 0), 10002);
        check.is("offsets(1, 2, 0) after undo", book.offsets(1, 2, 0), 0);
        int states = book.count(13);
        for (int firm : NO_FIRMS) {
            check.is("issueOffsets(" + firm + ", 0, 0)", book.issueOffsets(firm, 0, 0), -1);
        }
        for (int grade : NO_GRADES) {
            check.is("issueOffsets(0, " + grade + ", 0)", book.issueOffsets(0, grade, 0), -1);
        }
        for (int tonnes : BAD_TONNES) {
            check.is("issueOffsets(0, 0, " + tonnes + ")", book.issueOffsets(0, 0, tonnes), -2);
        }
        check.is("states after errors", book.count(13), states);
    }

    private static void transfers() {
        AllowanceBook book = Check.withFirms(2);
        book.issue(0, 50);
        check.is("transfer(0, 1, 0, 20)", book.transfer(0, 1, 0, 20), 30);
        check.is("holds(1, 0)", book.holds(1, 0), 20);
        check.is("transfer(0, 1, 0, 30)", book.transfer(0, 1, 0, 30), 0);
        check.is("transfer(0, 1, 0, 1)", book.transfer(0, 1, 0, 1), -4);
        check.is("transfer(1, 0, 0, 51)", book.transfer(1, 0, 0, 51), -4);
        check.is("transfer(1, 0, 1, 1)", book.transfer(1, 0, 1, 1), -4);
        check.is("transfer(1, 0, 19, 1)", book.transfer(1, 0, 19, 1), -4);
        check.is("states", book.count(13), 4);
        book.undo();
        check.is("holds(0, 0) after undo", book.holds(0, 0), 30);
        check.is("holds(1, 0) after undo", book.holds(1, 0), 20);
        for (int firm : NO_FIRMS) {
            check.is("transfer(" + firm + ", 0, 0, 0)", book.transfer(firm, 0, 0, 0), -1);
            check.is("transfer(0, " + firm + ", 0, 0)", book.transfer(0, firm, 0, 0), -1);
            check.is("transfer(" + firm + ", " + firm + ", 0, 1)", book.transfer(firm, firm, 0, 1), -1);
        }
        for (int vintage : NO_VINTAGES) {
            check.is("transfer(0, 1, " + vintage + ", 0)", book.transfer(0, 1, vintage, 0), -1);
            check.is("transfer(0, 0, " + vintage + ", 1)", book.transfer(0, 0, vintage, 1), -1);
        }
        for (int tonnes : BAD_TONNES) {
            check.is("transfer(0, 1, 0, " + tonnes + ")", book.transfer(0, 1, 0, tonnes), -2);
        }
        check.is("transfer(0, 0, 0, 1)", book.transfer(0, 0, 0, 1), -2);
        check.is("transfer(0, 0, 0, 9999)", book.transfer(0, 0, 0, 9999), -2);
        check.is("transfer(0, 1, 0, 9999)", book.transfer(0, 1, 0, 9999), -4);
        check.is("states after errors", book.count(13), 3);
        check.is("issued", book.vintage(0, 0), 50);
    }

    private static void transfersOffsets() {
        AllowanceBook book = Check.withFirms(2);
        book.issueOffsets(0, 1, 50);
        check.is("transferOffsets(0, 1, 1, 20)", book.transferOffsets(0, 1, 1, 20), 30);
        check.is("offsets(1, 1, 0)", book.offsets(1, 1, 0), 20);
        check.is("transferOffsets(0, 1, 1, 31)", book.transferOffsets(0, 1, 1, 31), -4);
        check.is("transferOffsets(0, 1, 1, 30)", book.transferOffsets(0, 1, 1, 30), 0);
        check.is("transferOffsets(1, 0, 0, 1)", book.transferOffsets(1, 0, 0, 1), -4);
        check.is("transferOffsets(1, 0, 2, 1)", book.transferOffsets(1, 0, 2, 1), -4);
        book.undo();
        check.is("offsets(0, 1, 0) after undo", book.offsets(0, 1, 0), 30);
        for (int firm : NO_FIRMS) {
            check.is("transferOffsets(" + firm + ", 0, 0, 0)", book.transferOffsets(firm, 0, 0, 0), -1);
            check.is("transferOffsets(0, " + firm + ", 0, 0)", book.transferOffsets(0, firm, 0, 0), -1);
        }
        for (int grade : NO_GRADES) {
            check.is("transferOffsets(0, 0, " + grade + ", 0)", book.transferOffsets(0, 0, grade, 0), -1);
        }
        for (int tonnes : BAD_TONNES) {
            check.is("transferOffsets(0, 1, 1, " + tonnes + ")", book.transferOffsets(0, 1, 1, tonnes), -2);
        }
        check.is("transferOffsets(0, 0, 1, 1)", book.transferOffsets(0, 0, 1, 1), -2);
        check.is("transferOffsets(0, 0, 1, 99)", book.transferOffsets(0, 0, 1, 99), -2);
        check.is("states after errors", book.count(13), 3);
        check.is("issued", book.grade(1, 0), 50);
        check.is("held", book.grade(1, 1), 50);
    }

    private static void cancels() {
        AllowanceBook book = Check.withFirms(2);
        book.issue(0, 50);
        book.issue(1, 5);
        check.is("cancel(0, 0, 20)", book.cancel(0, 0, 20), 30);
        check.is("cancelled", book.vintage(0, 3), 20);
        check.is("held", book.vintage(0, 1), 35);
        check.is("cancel(0, 0, 31)", book.cancel(0, 0, 31), -4);
        check.is("cancel(0, 0, 30)", book.cancel(0, 0, 30), 0);
        check.is("cancel(0, 0, 1)", book.cancel(0, 0, 1), -4);
        check.is("cancel(1, 1, 1)", book.cancel(1, 1, 1), -4);
        check.is("cancelled of both", book.vintage(0, 3), 50);
        book.undo();
        check.is("cancelled after undo", book.vintage(0, 3), 20);
        check.is("surrendered", book.firm(0, 8), 0);
        check.is("surrendered of the vintage", book.vintage(0, 2), 0);
        for (int firm : NO_FIRMS) {
            check.is("cancel(" + firm + ", 0, 0)", book.cancel(firm, 0, 0), -1);
        }
        for (int vintage : NO_VINTAGES) {
            check.is("cancel(0, " + vintage + ", 0)", book.cancel(0, vintage, 0), -1);
        }
        for (int tonnes : BAD_TONNES) {
            check.is("cancel(0, 0, " + tonnes + ")", book.cancel(0, 0, tonnes), -2);
        }
        check.is("states after errors", book.count(13), 3);
    }
}
