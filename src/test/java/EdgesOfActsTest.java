/** The sentences of the promises 1 to 12 that name a boundary case, a test for each. */
final class EdgesOfActsTest {
    private static final Check check = new Check("edges of the acts");

    public static void main(String[] args) {
        newObjectHasNoFirms();
        addsAFirmThatHoldsNothing();
        addFirmIsFull();
        settingsThatAre();
        valuesInTheirRange();
        previousValue();
        noneIfItIsSoAlready();
        issuesToFirms();
        issuesTonnes();
        issuesTheWholeVintage();
        issuesOffsetsToFirms();
        issuesOffsetsOfGrades();
        issuesTonnesOfOffsets();
        transfersBetweenFirms();
        transfersVintages();
        transfersTonnes();
        transfersToAnother();
        transfersWhatIsHeld();
        transfersOffsetsBetweenFirms();
        transfersOffsetsOfGrades();
        transfersTonnesOfOffsets();
        transfersOffsetsToAnother();
        transfersOffsetsThatAreHeld();
        cancelsOfFirms();
        cancelsVintages();
        cancelsTonnes();
        cancelsWhatIsHeld();
        cancelsForNothing();
        reportsOfFirms();
        reportsTonnes();
        reportsWhatIsNotVerified();
        reportIsFull();
        verifiesOfFirms();
        verifiesAllOfThisYear();
        verifyIsNone();
        surrendersOfFirms();
        surrendersTonnes();
        surrendersInWays();
        surrendersWhatIsDue();
        surrendersWhatItHas();
        passesMonths();
        passesCoins();
        passesNoFurther();
        check.end();
    }

    /** Two firms in the month 239 with 9999 of the vintage 19 and of each grade; the tonnes are due of firm 0. */
    private static AllowanceBook late(int due) {
        AllowanceBook book = Check.inMonth(2, 227);
        book.report(0, due);
        book.verify(0);
        book.pass(12);
        for (int firm = 0; firm < 2; firm++) {
            book.issue(firm, 9999);
            for (int grade = 0; grade <= 2; grade++) {
                book.issueOffsets(firm, grade, 9999);
            }
        }
        return book;
    }

    // ---- firms and settings

    private static void newObjectHasNoFirms() {
        check.sentence("Promise 1", "Creates a registry without firms.");
        AllowanceBook book = new AllowanceBook();
        check.is("count(2)", book.count(2), 0);
        check.is("firm(0, 0)", book.firm(0, 0), -1);
        check.is("issue(0, 1)", book.issue(0, 1), -1);
        check.is("addFirm()", book.addFirm(), 0);
        check.is("firm(0, 0)", book.firm(0, 0), 0);
        check.is("firm(1, 0)", book.firm(1, 0), -1);
    }

    private static void addsAFirmThatHoldsNothing() {
        check.sentence("Promise 2", "Adds a firm that holds nothing.");
        AllowanceBook undone = withEighthFirm();
        for (int i = 0; i < 4; i++) {
            undone.undo();
        }
        check.is("addFirm() after undo()", undone.addFirm(), 7);
        holdsNothing(undone);
        AllowanceBook restored = withEighthFirm();
        check.is("restore()", restored.restore(), 0);
        check.is("addFirm() after restore()", restored.addFirm(), 7);
        holdsNothing(restored);
    }

    private static AllowanceBook withEighthFirm() {
        AllowanceBook book = Check.withFirms(7);
        book.keep();
        book.addFirm();
        book.issue(7, 5);
        book.issueOffsets(7, 1, 5);
        book.report(7, 5);
        return book;
    }

    private static void holdsNothing(AllowanceBook book) {
        for (int what = 0; what <= 10; what++) {
            check.is("firm(7, " + what + ")", book.firm(7, what), what == 2 || what == 3 ? -5 : 0);
        }
        for (int vintage = 0; vintage <= 19; vintage++) {
            check.is("holds(7, " + vintage + ")", book.holds(7, vintage), 0);
        }
        for (int grade = 0; grade <= 2; grade++) {
            check.is("offsets(7, " + grade + ", 0)", book.offsets(7, grade, 0), 0);
        }
    }

    private static void addFirmIsFull() {
        check.sentence("Promise 2", "Returns its number; FULL if there are 8.");
        AllowanceBook book = new AllowanceBook();
        for (int firm = 0; firm < 8; firm++) {
            check.is("addFirm()", book.addFirm(), firm);
        }
        check.is("addFirm() for a ninth", book.addFirm(), -3);
        book.undo();
        check.is("addFirm() after undo", book.addFirm(), 7);
        check.is("addFirm() for a ninth again", book.addFirm(), -3);
    }

    private static void settingsThatAre() {
        check.sentence("Promise 3",
            "0 to 2 for the limits of the grades 0 to 2 (0 to 100), 3 for the bank (1 to 5), 4 for the fine "
            + "(0 to 99)");
        int[] whats = {Integer.MIN_VALUE, -1, 0, 1, 2, 3, 4, 5, Integer.MAX_VALUE};
        int[] due = {-2, -2, 20, 10, 5, 3, 50, -2, -2};
        for (int i = 0; i < whats.length; i++) {
            check.is("set(" + whats[i] + ", 2)", new AllowanceBook().set(whats[i], 2), due[i]);
        }
    }

    private static void valuesInTheirRange() {
        check.sentence("Promise 3", "- `value`: the value, in its range");
        int[] least = {0, 0, 0, 1, 0};
        int[] most = {100, 100, 100, 5, 99};
        int[] first = {20, 10, 5, 3, 50};
        for (int what = 0; what <= 4; what++) {
            AllowanceBook book = new AllowanceBook();
            check.is("set(" + what + ", MIN)", book.set(what, Integer.MIN_VALUE), -2);
            check.is("set(" + what + ", least - 1)", book.set(what, least[what] - 1), -2);
            check.is("set(" + what + ", most + 1)", book.set(what, most[what] + 1), -2);
            check.is("set(" + what + ", MAX)", book.set(what, Integer.MAX_VALUE), -2);
            check.is("set(" + what + ", least)", book.set(what, least[what]), first[what]);
            check.is("set(" + what + ", most)", book.set(what, most[what]), least[what]);
        }
    }

    private static void previousValue() {
        check.sentence("Promise 3", "Returns the previous one");
        AllowanceBook book = new AllowanceBook();
        int[] previous = {20, 10, 5, 3, 50};
        for (int what = 0; what <= 4; what++) {
            check.is("set(" + what + ", 4)", book.set(what, 4), previous[what]);
            check.is("set(" + what + ", 1)", book.set(what, 1), 4);
            for (int other = 0; other <= 4; other++) {
                check.is("count(" + (3 + other) + ")", book.count(3 + other), other <= what ? 1 : previous[other]);
            }
        }
        book.set(4, 0);
        check.is("set(4, 1) for 0", book.set(4, 1), 0);
    }

    private static void noneIfItIsSoAlready() {
        check.sentence("Promise 3", "NONE if it is so already.");
        int[] first = {20, 10, 5, 3, 50};
        for (int what = 0; what <= 4; what++) {
            AllowanceBook book = new AllowanceBook();
            check.is("set(" + what + ", first)", book.set(what, first[what]), -5);
            check.is("set(" + what + ", first - 1)", book.set(what, first[what] - 1), first[what]);
            check.is("set(" + what + ", first - 1) again", book.set(what, first[what] - 1), -5);
            check.is("set(" + what + ", first) again", book.set(what, first[what]), first[what] - 1);
        }
    }

    // ---- allowances and offsets

    private static final int[] FIRMS = {Integer.MIN_VALUE, -1, 0, 1, 2, 7, 8, Integer.MAX_VALUE};

    private static boolean isFirm(int firm) {
        return firm == 0 || firm == 1;
    }

    private static void issuesToFirms() {
        check.sentence("Promise 4", "- `firm`: a firm");
        for (int firm : FIRMS) {
            check.is("issue(" + firm + ", 3)", Check.withFirms(2).issue(firm, 3), isFirm(firm) ? 3 : -1);
        }
    }

    private static final int[] TONNES = {Integer.MIN_VALUE, -1, 0, 1, 2, 9998, 9999, 10000, Integer.MAX_VALUE};

    private static boolean isTonnes(int tonnes) {
        return tonnes >= 1 && tonnes <= 9999;
    }

    private static void issuesTonnes() {
        check.sentence("Promise 4", "- `tonnes`: 1 to 9999");
        for (int tonnes : TONNES) {
            AllowanceBook book = Check.withFirms(1);
            check.is("issue(0, " + tonnes + ")", book.issue(0, tonnes), isTonnes(tonnes) ? tonnes : -2);
        }
    }

    private static void issuesTheWholeVintage() {
        check.sentence("Promise 4", "Returns what it holds of this vintage then");
        AllowanceBook book = Check.inMonth(2, 11);
        check.is("issue(0, 9999)", book.issue(0, 9999), 9999);
        check.is("issue(0, 1)", book.issue(0, 1), 10000);
        check.is("issue(1, 1)", book.issue(1, 1), 1);
        book.pass(1);
        check.is("issue(0, 1) in the next year", book.issue(0, 1), 1);
    }

    private static void issuesOffsetsToFirms() {
        check.sentence("Promise 5", "- `firm`: a firm");
        for (int firm : FIRMS) {
            int due = isFirm(firm) ? 3 : -1;
            check.is("issueOffsets(" + firm + ", 2, 3)", Check.withFirms(2).issueOffsets(firm, 2, 3), due);
        }
    }

    private static final int[] GRADES = {Integer.MIN_VALUE, -1, 0, 1, 2, 3, Integer.MAX_VALUE};

    private static boolean isGrade(int grade) {
        return grade >= 0 && grade <= 2;
    }

    private static void issuesOffsetsOfGrades() {
        check.sentence("Promise 5", "- `grade`: 0 to 2");
        for (int grade : GRADES) {
            int due = isGrade(grade) ? 3 : -1;
            check.is("issueOffsets(0, " + grade + ", 3)", Check.withFirms(1).issueOffsets(0, grade, 3), due);
        }
    }

    private static void issuesTonnesOfOffsets() {
        check.sentence("Promise 5", "- `tonnes`: 1 to 9999");
        for (int tonnes : TONNES) {
            AllowanceBook book = Check.withFirms(1);
            int due = isTonnes(tonnes) ? tonnes : -2;
            check.is("issueOffsets(0, 1, " + tonnes + ")", book.issueOffsets(0, 1, tonnes), due);
        }
    }

    private static void transfersBetweenFirms() {
        check.sentence("Promise 6", "UNKNOWN (from, to or vintage)");
        for (int firm : FIRMS) {
            int due = firm == 1 ? 9996 : firm == 0 ? -2 : -1;
            check.is("transfer(" + firm + ", 0, 19, 3)", late(1).transfer(firm, 0, 19, 3), due);
        }
        for (int firm : FIRMS) {
            int due = firm == 1 ? 9996 : firm == 0 ? -2 : -1;
            check.is("transfer(0, " + firm + ", 19, 3)", late(1).transfer(0, firm, 19, 3), due);
        }
    }

    private static final int[] VINTAGES = {Integer.MIN_VALUE, -1, 0, 18, 19, 20, Integer.MAX_VALUE};

    private static void transfersVintages() {
        check.sentence("Promise 6", "- `vintage`: 0 to 19");
        for (int vintage : VINTAGES) {
            int due = vintage < 0 || vintage > 19 ? -1 : vintage == 19 ? 9996 : -4;
            check.is("transfer(0, 1, " + vintage + ", 3)", late(1).transfer(0, 1, vintage, 3), due);
        }
        AllowanceBook first = Check.withFirms(2);
        first.issue(0, 3);
        check.is("transfer(0, 1, 0, 3)", first.transfer(0, 1, 0, 3), 0);
    }

    private static void transfersTonnes() {
        check.sentence("Promise 6", "- `tonnes`: 1 to 9999");
        for (int tonnes : TONNES) {
            AllowanceBook book = late(1);
            book.issue(0, 9999);
            int due = isTonnes(tonnes) ? 2 * 9999 - tonnes : -2;
            check.is("transfer(0, 1, 19, " + tonnes + ")", book.transfer(0, 1, 19, tonnes), due);
        }
    }

    private static void transfersToAnother() {
        check.sentence("Promise 6", "BAD_VALUE (tonnes, or both firms are the same)");
        AllowanceBook book = Check.withFirms(8);
        book.issue(0, 5);
        book.issue(7, 5);
        check.is("transfer(0, 0, 0, 5)", book.transfer(0, 0, 0, 5), -2);
        check.is("transfer(7, 7, 0, 5)", book.transfer(7, 7, 0, 5), -2);
        check.is("transfer(0, 7, 0, 5)", book.transfer(0, 7, 0, 5), 0);
        check.is("transfer(7, 0, 0, 10)", book.transfer(7, 0, 0, 10), 0);
    }

    private static void transfersWhatIsHeld() {
        check.sentence("Promise 6", "NOT_POSSIBLE if it does not hold so many");
        AllowanceBook book = Check.withFirms(2);
        book.issue(0, 50);
        check.is("transfer(0, 1, 0, 51)", book.transfer(0, 1, 0, 51), -4);
        check.is("transfer(0, 1, 0, 49)", book.transfer(0, 1, 0, 49), 1);
        check.is("transfer(0, 1, 0, 2)", book.transfer(0, 1, 0, 2), -4);
        check.is("transfer(0, 1, 0, 1)", book.transfer(0, 1, 0, 1), 0);
        check.is("transfer(0, 1, 0, 1) again", book.transfer(0, 1, 0, 1), -4);
        check.is("holds(1, 0)", book.holds(1, 0), 50);
    }

    private static void transfersOffsetsBetweenFirms() {
        check.sentence("Promise 7", "UNKNOWN (from, to or grade)");
        for (int firm : FIRMS) {
            int due = firm == 1 ? 9996 : firm == 0 ? -2 : -1;
            check.is("transferOffsets(" + firm + ", 0, 1, 3)", late(1).transferOffsets(firm, 0, 1, 3), due);
        }
        for (int firm : FIRMS) {
            int due = firm == 1 ? 9996 : firm == 0 ? -2 : -1;
            check.is("transferOffsets(0, " + firm + ", 1, 3)", late(1).transferOffsets(0, firm, 1, 3), due);
        }
    }

    private static void transfersOffsetsOfGrades() {
        check.sentence("Promise 7", "- `grade`: 0 to 2");
        for (int grade : GRADES) {
            int due = isGrade(grade) ? 9996 : -1;
            check.is("transferOffsets(0, 1, " + grade + ", 3)", late(1).transferOffsets(0, 1, grade, 3), due);
        }
    }

    private static void transfersTonnesOfOffsets() {
        check.sentence("Promise 7", "- `tonnes`: 1 to 9999");
        for (int tonnes : TONNES) {
            AllowanceBook book = late(1);
            book.issueOffsets(0, 2, 9999);
            int due = isTonnes(tonnes) ? 2 * 9999 - tonnes : -2;
            check.is("transferOffsets(0, 1, 2, " + tonnes + ")", book.transferOffsets(0, 1, 2, tonnes), due);
        }
    }

    private static void transfersOffsetsToAnother() {
        check.sentence("Promise 7", "BAD_VALUE (tonnes, or both firms are the same)");
        AllowanceBook book = Check.withFirms(8);
        book.issueOffsets(0, 0, 5);
        book.issueOffsets(7, 0, 5);
        check.is("transferOffsets(0, 0, 0, 5)", book.transferOffsets(0, 0, 0, 5), -2);
        check.is("transferOffsets(7, 7, 0, 5)", book.transferOffsets(7, 7, 0, 5), -2);
        check.is("transferOffsets(0, 7, 0, 5)", book.transferOffsets(0, 7, 0, 5), 0);
        check.is("transferOffsets(7, 0, 0, 10)", book.transferOffsets(7, 0, 0, 10), 0);
    }

    private static void transfersOffsetsThatAreHeld() {
        check.sentence("Promise 7", "NOT_POSSIBLE if it does not hold so many");
        AllowanceBook book = Check.withFirms(2);
        book.issueOffsets(0, 1, 50);
        book.issueOffsets(0, 0, 99);
        check.is("transferOffsets(0, 1, 1, 51)", book.transferOffsets(0, 1, 1, 51), -4);
        check.is("transferOffsets(0, 1, 1, 49)", book.transferOffsets(0, 1, 1, 49), 1);
        check.is("transferOffsets(0, 1, 1, 2)", book.transferOffsets(0, 1, 1, 2), -4);
        check.is("transferOffsets(0, 1, 1, 1)", book.transferOffsets(0, 1, 1, 1), 0);
        check.is("transferOffsets(0, 1, 1, 1) again", book.transferOffsets(0, 1, 1, 1), -4);
        check.is("offsets(1, 1, 0)", book.offsets(1, 1, 0), 50);
    }

    private static void cancelsOfFirms() {
        check.sentence("Promise 8", "- `firm`: a firm");
        for (int firm : FIRMS) {
            check.is("cancel(" + firm + ", 19, 3)", late(1).cancel(firm, 19, 3), isFirm(firm) ? 9996 : -1);
        }
    }

    private static void cancelsVintages() {
        check.sentence("Promise 8", "- `vintage`: 0 to 19");
        for (int vintage : VINTAGES) {
            int due = vintage < 0 || vintage > 19 ? -1 : vintage == 19 ? 9996 : -4;
            check.is("cancel(0, " + vintage + ", 3)", late(1).cancel(0, vintage, 3), due);
        }
        AllowanceBook first = Check.withFirms(1);
        first.issue(0, 3);
        check.is("cancel(0, 0, 3)", first.cancel(0, 0, 3), 0);
    }

    private static void cancelsTonnes() {
        check.sentence("Promise 8", "- `tonnes`: 1 to 9999");
        for (int tonnes : TONNES) {
            AllowanceBook book = late(1);
            book.issue(0, 9999);
            int due = isTonnes(tonnes) ? 2 * 9999 - tonnes : -2;
            check.is("cancel(0, 19, " + tonnes + ")", book.cancel(0, 19, tonnes), due);
        }
    }

    private static void cancelsWhatIsHeld() {
        check.sentence("Promise 8", "NOT_POSSIBLE if it does not hold so many");
        AllowanceBook book = Check.withFirms(2);
        book.issue(0, 50);
        book.issue(1, 99);
        check.is("cancel(0, 0, 51)", book.cancel(0, 0, 51), -4);
        check.is("cancel(0, 0, 49)", book.cancel(0, 0, 49), 1);
        check.is("cancel(0, 0, 2)", book.cancel(0, 0, 2), -4);
        check.is("cancel(0, 0, 1)", book.cancel(0, 0, 1), 0);
        check.is("cancel(0, 0, 1) again", book.cancel(0, 0, 1), -4);
        check.is("vintage(0, 3)", book.vintage(0, 3), 50);
    }

    private static void cancelsForNothing() {
        check.sentence("Promise 8", "Cancels allowances of a firm, for nothing.");
        AllowanceBook book = Check.withBase(40);
        book.issue(0, 50);
        book.cancel(0, 1, 50);
        check.is("due after cancel", book.firm(0, 7), 40);
        check.is("surrendered after cancel", book.firm(0, 8), 0);
        check.is("surrendered of the vintage", book.vintage(1, 2), 0);
        check.is("lost of the vintage", book.vintage(1, 4), 0);
    }

    // ---- emissions

    private static void reportsOfFirms() {
        check.sentence("Promise 9", "- `firm`: a firm");
        for (int firm : FIRMS) {
            check.is("report(" + firm + ", 3)", Check.withFirms(2).report(firm, 3), isFirm(firm) ? 3 : -1);
        }
    }

    private static void reportsTonnes() {
        check.sentence("Promise 9", "- `tonnes`: 1 to 9999");
        for (int tonnes : TONNES) {
            AllowanceBook book = Check.withFirms(1);
            check.is("report(0, " + tonnes + ")", book.report(0, tonnes), isTonnes(tonnes) ? tonnes : -2);
        }
    }

    private static void reportsWhatIsNotVerified() {
        check.sentence("Promise 9", "Returns what it has reported this year and did not let be verified yet");
        AllowanceBook book = Check.withFirms(2);
        check.is("report(0, 5)", book.report(0, 5), 5);
        check.is("report(0, 6)", book.report(0, 6), 11);
        book.verify(0);
        check.is("report(0, 7) after verify", book.report(0, 7), 7);
        check.is("report(1, 1)", book.report(1, 1), 1);
        book.pass(12);
        check.is("report(0, 8) in the next year", book.report(0, 8), 8);
    }

    private static void reportIsFull() {
        check.sentence("Promise 9",
            "FULL if what it has reported this year, verified or not, would be more than 9999.");
        AllowanceBook book = Check.withFirms(1);
        book.report(0, 4000);
        book.verify(0);
        check.is("report(0, 6000) of 4000", book.report(0, 6000), -3);
        check.is("report(0, 5990) of 4000", book.report(0, 5990), 5990);
        check.is("report(0, 10) of 9990", book.report(0, 10), -3);
        check.is("report(0, 9) of 9990", book.report(0, 9), 5999);
        check.is("report(0, 1) of 9999", book.report(0, 1), -3);
        check.is("verify(0)", book.verify(0), 9999);
        check.is("report(0, 1) of 9999 verified", book.report(0, 1), -3);
        check.is("report(0, 9999) of 9999 verified", book.report(0, 9999), -3);
    }

    private static void verifiesOfFirms() {
        check.sentence("Promise 10", "- `firm`: a firm");
        for (int firm : FIRMS) {
            AllowanceBook book = Check.withFirms(2);
            book.report(0, 3);
            book.report(1, 3);
            check.is("verify(" + firm + ")", book.verify(firm), isFirm(firm) ? 3 : -1);
        }
    }

    private static void verifiesAllOfThisYear() {
        check.sentence("Promise 10", "Returns all that is verified of this year then");
        AllowanceBook book = Check.withFirms(1);
        book.report(0, 1);
        check.is("verify(0)", book.verify(0), 1);
        book.report(0, 9998);
        check.is("verify(0) of the rest", book.verify(0), 9999);
        book.pass(12);
        book.report(0, 2);
        check.is("verify(0) in the next year", book.verify(0), 2);
    }

    private static void verifyIsNone() {
        check.sentence("Promise 10", "NONE if nothing is reported that is not verified.");
        AllowanceBook book = Check.withFirms(2);
        book.report(1, 1);
        check.is("verify(0) of nothing", book.verify(0), -5);
        book.report(0, 1);
        check.is("verify(0) of one tonne", book.verify(0), 1);
        check.is("verify(0) again", book.verify(0), -5);
        book.report(0, 1);
        book.pass(12);
        check.is("verify(0) in the next year", book.verify(0), -5);
    }

    private static void surrendersOfFirms() {
        check.sentence("Promise 11", "- `firm`: a firm");
        for (int firm : FIRMS) {
            int due = firm == 0 ? 7 : firm == 1 ? -4 : -1;
            check.is("surrender(" + firm + ", 3, 0)", late(10).surrender(firm, 3, 0), due);
        }
    }

    private static void surrendersTonnes() {
        check.sentence("Promise 11", "- `tonnes`: 1 to 9999");
        for (int tonnes : TONNES) {
            AllowanceBook book = Check.inMonth(1, 11);
            book.report(0, 9999);
            book.pass(12);
            book.issue(0, 9999);
            book.issue(0, 9999);
            int due = isTonnes(tonnes) ? 10999 - tonnes : -2;
            check.is("surrender(0, " + tonnes + ", 0)", book.surrender(0, tonnes, 0), due);
        }
    }

    private static void surrendersInWays() {
        check.sentence("Promise 11", "- `way`: 0 to 2");
        int[] ways = {Integer.MIN_VALUE, -1, 0, 1, 2, 3, Integer.MAX_VALUE};
        for (int way : ways) {
            int due = way >= 0 && way <= 2 ? 7 : -2;
            check.is("surrender(0, 3, " + way + ")", late(10).surrender(0, 3, way), due);
        }
    }

    private static void surrendersWhatIsDue() {
        check.sentence("Promise 11", "NOT_POSSIBLE if not so many are due");
        for (int way = 0; way <= 2; way++) {
            check.is("surrender(0, 11, " + way + ") of 10", late(10).surrender(0, 11, way), -4);
            check.is("surrender(0, 10, " + way + ") of 10", late(10).surrender(0, 10, way), 0);
            check.is("surrender(0, 9, " + way + ") of 10", late(10).surrender(0, 9, way), 1);
            check.is("surrender(1, 1, " + way + ") of 0", late(10).surrender(1, 1, way), -4);
        }
    }

    private static void surrendersWhatItHas() {
        check.sentence("Promise 11", "or it has not so many by this way");
        int[] most = {40, 40, 75};
        for (int way = 0; way <= 2; way++) {
            AllowanceBook book = Check.withBase(100);
            book.issue(0, 40);
            for (int grade = 0; grade <= 2; grade++) {
                book.issueOffsets(0, grade, 99);
            }
            String call = "surrender(0, " + most[way] + ", " + way + ")";
            check.is("one more than " + call, book.surrender(0, most[way] + 1, way), -4);
            check.is(call, book.surrender(0, most[way], way), 100 - most[way]);
            check.is("one after " + call, book.surrender(0, 1, way), -4);
        }
    }

    private static void passesMonths() {
        check.sentence("Promise 12", "- `months`: 1 to 24");
        int[] months = {Integer.MIN_VALUE, -1, 0, 1, 2, 23, 24, 25, Integer.MAX_VALUE};
        for (int number : months) {
            AllowanceBook book = new AllowanceBook();
            boolean isAllowed = number >= 1 && number <= 24;
            check.is("pass(" + number + ")", book.pass(number), isAllowed ? 0 : -2);
            check.is("count(0) after pass(" + number + ")", book.count(0), isAllowed ? number : 0);
        }
    }

    private static void passesCoins() {
        check.sentence("Promise 12", "Returns the coins of all fines in them");
        int[] coins = {0, 0, 0, 0, 500, 500, 500, 500, 500, 500, 500, 500, 500, 500, 500, 500, 1000, 1000};
        for (int months = 1; months < coins.length; months++) {
            check.is("pass(" + months + ")", Check.withBase(10).pass(months), coins[months]);
        }
        AllowanceBook book = Check.withBase(10);
        book.pass(3);
        check.is("pass(24) with two deadlines", book.pass(24), 1000);
        check.is("pass(1) with the third", book.pass(1), 500);
    }

    private static void passesNoFurther() {
        check.sentence("Promise 12", "NOT_POSSIBLE if the month would become more than 239.");
        int[] months = {215, 216, 237, 238, 239};
        for (int month : months) {
            int left = 239 - month;
            if (left > 0) {
                AllowanceBook book = Check.inMonth(1, month);
                check.is("pass(" + left + ") in the month " + month, book.pass(left), 0);
                check.is("count(0)", book.count(0), 239);
            }
            if (left < 24) {
                AllowanceBook book = Check.inMonth(1, month);
                check.is("pass(" + (left + 1) + ") in the month " + month, book.pass(left + 1), -4);
                check.is("pass(24) in the month " + month, book.pass(24), -4);
                check.is("count(0)", book.count(0), month);
            }
        }
    }
}
