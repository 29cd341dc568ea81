import java.util.function.ToIntFunction;

/** The sentences on the history (HISTORY in 'Terms', promises 16 to 18) that name a boundary case, a test for each. */
final class EdgesOfHistoryTest {
    private static final Check check = new Check("edges of the history");

    public static void main(String[] args) {
        atMostFourStates();
        oldestIsDropped();
        undoRestoresTheLatest();
        roundAndRound();
        actsRecord();
        actsRecordAgainstAFullHistory();
        noActsDoNotRecord();
        actThatChangesNothingSeen();
        oneSnapshot();
        snapshotIsEmptyAtFirst();
        stateIsNotTheText();
        stateIsNotTheHistory();
        stateIsNotTheSnapshot();
        undoIsNone();
        undoReturnsWhatIsLeft();
        keepInPlaceOfTheOneThatWas();
        keepReturnsTheMonth();
        snapshotStays();
        restoreReturnsTheMonth();
        restoreIsAnAct();
        restoreIsNone();
        check.end();
    }

    private static void atMostFourStates() {
        check.sentence("Terms", "A history of at most 4 states is kept");
        AllowanceBook book = new AllowanceBook();
        check.is("count(13) of a new one", book.count(13), 0);
        book.addFirm();
        for (int states = 1; states <= 12; states++) {
            check.is("count(13)", book.count(13), Math.min(4, states));
            book.issue(0, 1);
        }
    }

    private static void oldestIsDropped() {
        check.sentence("Terms", "when one more is recorded, the oldest one is dropped");
        for (int acts = 3; acts <= 6; acts++) {
            AllowanceBook book = Check.withFirms(1);
            for (int i = 1; i < acts; i++) {
                book.issue(0, 1);
            }
            int states = Math.min(4, acts);
            for (int left = states - 1; left >= 0; left--) {
                check.is("undo() after " + acts + " acts", book.undo(), left);
            }
            check.is("undo() once more after " + acts + " acts", book.undo(), -5);
            check.is("count(2)", book.count(2), acts <= 4 ? 0 : 1);
            check.is("holds(0, 0)", book.holds(0, 0), acts <= 4 ? -1 : acts - 5);
        }
    }

    private static void undoRestoresTheLatest() {
        check.sentence("Terms", "undo() removes and restores the latest one");
        AllowanceBook book = Check.withFirms(1);
        int[] tonnes = {1, 10, 100, 1000};
        for (int each : tonnes) {
            book.issue(0, each);
        }
        int[] due = {111, 11, 1, 0};
        for (int i = 0; i < due.length; i++) {
            check.is("undo()", book.undo(), 3 - i);
            check.is("holds(0, 0)", book.holds(0, 0), due[i]);
            check.is("count(13)", book.count(13), 3 - i);
        }
    }

    /** The place of the latest state goes round many times, in all steps of acts and undo(). */
    private static void roundAndRound() {
        check.sentence("Terms", "A history of at most 4 states is kept");
        for (int undone = 1; undone <= 4; undone++) {
            AllowanceBook book = Check.withFirms(1);
            for (int i = 0; i < 4; i++) {
                book.issue(0, 1);
            }
            int held = 4;
            for (int round = 0; round < 30; round++) {
                for (int i = 0; i < undone; i++) {
                    held--;
                    check.is("undo()", book.undo(), 3 - i);
                    check.is("holds(0, 0)", book.holds(0, 0), held);
                }
                for (int i = 0; i < undone; i++) {
                    held++;
                    check.is("issue(0, 1)", book.issue(0, 1), held);
                }
                check.is("count(13)", book.count(13), 4);
            }
        }
    }

    // ---- what is recorded

    private static final String EACH_ACT =
        "Each call of a method that is described as an act, and returns no error and not NONE, records the state "
        + "that was before it.";

    private static void records(String promise, String call, ToIntFunction<AllowanceBook> act) {
        check.sentence(promise, promise.equals("Promise 15") ? "This is one act." : "This is an act.");
        check.sentence("Terms", EACH_ACT);
        AllowanceBook book = Books.half();
        check.is("count(13) before " + call, book.count(13), 2);
        check.is(call + " is refused", act.applyAsInt(book) >= 0 ? 0 : 1, 0);
        check.is("count(13) after " + call, book.count(13), 3);
        check.changesNothing(call + ", undo()", Books::half, done -> act.applyAsInt(done) + done.undo());
    }

    private static void actsRecord() {
        records("Promise 2", "addFirm()", AllowanceBook::addFirm);
        records("Promise 3", "set(0, 21)", book -> book.set(0, 21));
        records("Promise 3", "set(3, 1)", book -> book.set(3, 1));
        records("Promise 3", "set(4, 99)", book -> book.set(4, 99));
        records("Promise 4", "issue(0, 1)", book -> book.issue(0, 1));
        records("Promise 5", "issueOffsets(0, 0, 1)", book -> book.issueOffsets(0, 0, 1));
        records("Promise 6", "transfer(0, 1, 0, 1)", book -> book.transfer(0, 1, 0, 1));
        records("Promise 6", "transfer(0, 1, 0, 40)", book -> book.transfer(0, 1, 0, 40));
        records("Promise 7", "transferOffsets(0, 1, 0, 1)", book -> book.transferOffsets(0, 1, 0, 1));
        records("Promise 8", "cancel(0, 0, 1)", book -> book.cancel(0, 0, 1));
        records("Promise 9", "report(0, 1)", book -> book.report(0, 1));
        records("Promise 10", "verify(0)", book -> book.verify(0));
        records("Promise 11", "surrender(0, 150, 0)", book -> book.surrender(0, 150, 0));
        records("Promise 11", "surrender(0, 51, 1)", book -> book.surrender(0, 51, 1));
        records("Promise 11", "surrender(0, 190, 2)", book -> book.surrender(0, 190, 2));
        records("Promise 12", "pass(1)", book -> book.pass(1));
        records("Promise 12", "pass(24)", book -> book.pass(24));
        records("Promise 15", "readTransfers()", AllowanceBook::readTransfers);
        records("Promise 18", "restore()", AllowanceBook::restore);
    }

    private static void actsRecordAgainstAFullHistory() {
        check.sentence("Terms", "when one more is recorded, the oldest one is dropped");
        AllowanceBook book = Books.rich();
        check.is("count(13)", book.count(13), 4);
        check.is("readTransfers()", book.readTransfers(), 1);
        check.is("count(13) after readTransfers()", book.count(13), 4);
        check.is("restore()", book.restore(), 12);
        check.is("count(13) after restore()", book.count(13), 4);
        check.is("pass(24)", book.pass(24) >= 0 ? 1 : 0, 1);
        check.is("count(13) after pass(24)", book.count(13), 4);
        for (int left = 3; left >= 0; left--) {
            check.is("undo()", book.undo(), left);
        }
        check.is("undo() once more", book.undo(), -5);
    }

    private static void doesNotRecord(String call, ToIntFunction<AllowanceBook> made) {
        AllowanceBook book = Books.half();
        made.applyAsInt(book);
        check.is("count(13) after " + call, book.count(13), 2);
        AllowanceBook full = Books.rich();
        made.applyAsInt(full);
        check.is("undo() after " + call, full.undo(), 3);
        check.is("holds(0, 2) after " + call + ", undo()", full.holds(0, 2), 61);
    }

    private static void noActsDoNotRecord() {
        check.sentence("Terms", "Each call of a method that is described as an act");
        doesNotRecord("type('x')", book -> book.type('x'));
        doesNotRecord("clearText()", AllowanceBook::clearText);
        doesNotRecord("keep()", AllowanceBook::keep);
        doesNotRecord("firm(0, 0)", book -> book.firm(0, 0));
        doesNotRecord("holds(0, 0)", book -> book.holds(0, 0));
        doesNotRecord("offsets(0, 0, 0)", book -> book.offsets(0, 0, 0));
        doesNotRecord("vintage(0, 0)", book -> book.vintage(0, 0));
        doesNotRecord("grade(0, 0)", book -> book.grade(0, 0));
        doesNotRecord("holder(0, 0)", book -> book.holder(0, 0));
        doesNotRecord("plan(0, 1, 0, 0)", book -> book.plan(0, 1, 0, 0));
        doesNotRecord("count(0)", book -> book.count(0));
    }

    /** An act is recorded also if the state is the same after it. */
    private static void actThatChangesNothingSeen() {
        check.sentence("Terms", EACH_ACT);
        AllowanceBook book = Check.withFirms(2);
        book.keep();
        check.is("restore() of the same state", book.restore(), 0);
        check.is("count(13) after restore()", book.count(13), 3);
        book.issue(0, 5);
        Check.write(book, "0>1:0*5;1>0:0*5");
        book.undo();
        book.issue(0, 5);
        check.is("count(13)", book.count(13), 4);
        book.undo();
        book.undo();
        book.undo();
        book.issue(0, 5);
        check.is("readTransfers() there and back", book.readTransfers(), -1);
        book.addFirm();
        check.is("count(13)", book.count(13), 3);
        check.is("readTransfers() there and back", book.readTransfers(), 2);
        check.is("count(13) after readTransfers()", book.count(13), 4);
        check.is("holds(0, 0)", book.holds(0, 0), 5);
    }

    // ---- the snapshot

    private static void oneSnapshot() {
        check.sentence("Terms", "There is one snapshot");
        AllowanceBook book = Check.withFirms(1);
        book.issue(0, 1);
        book.keep();
        book.issue(0, 1);
        book.keep();
        book.issue(0, 1);
        check.is("restore()", book.restore(), 0);
        check.is("holds(0, 0)", book.holds(0, 0), 2);
        check.is("restore() again", book.restore(), 0);
        check.is("holds(0, 0)", book.holds(0, 0), 2);
    }

    private static void snapshotIsEmptyAtFirst() {
        check.sentence("Terms", "There is one snapshot, empty at first.");
        AllowanceBook book = new AllowanceBook();
        check.is("restore() of a new one", book.restore(), -5);
        check.is("keep() of a new one", book.keep(), 0);
        check.is("restore()", book.restore(), 0);
        check.is("count(13)", book.count(13), 1);
        check.is("count(2)", book.count(2), 0);
    }

    private static final String STATE = "A state is everything but the text, the history and the snapshot.";

    private static void stateIsNotTheText() {
        check.sentence("Terms", STATE);
        AllowanceBook book = Check.withFirms(2);
        book.issue(0, 9);
        Check.write(book, "0>1:0*1");
        book.keep();
        book.issue(0, 1);
        Check.write(book, "0>1:0*23");
        book.undo();
        check.is("count(14) after undo()", book.count(14), 8);
        check.is("readTransfers() after undo()", book.readTransfers(), -4);
        Check.write(book, "0>1:0*4");
        book.restore();
        check.is("count(14) after restore()", book.count(14), 7);
        check.is("readTransfers() after restore()", book.readTransfers(), 1);
        check.is("holds(1, 0)", book.holds(1, 0), 4);
        book.clearText();
        book.undo();
        book.restore();
        check.is("count(14) when cleared", book.count(14), 0);
    }

    private static void stateIsNotTheHistory() {
        check.sentence("Terms", STATE);
        AllowanceBook book = Check.withFirms(1);
        book.keep();
        book.issue(0, 1);
        book.issue(0, 2);
        check.is("restore()", book.restore(), 0);
        check.is("count(13) after restore()", book.count(13), 4);
        check.is("undo() of restore()", book.undo(), 3);
        check.is("holds(0, 0)", book.holds(0, 0), 3);
        check.is("undo()", book.undo(), 2);
        check.is("holds(0, 0)", book.holds(0, 0), 1);
    }

    private static void stateIsNotTheSnapshot() {
        check.sentence("Terms", STATE);
        AllowanceBook book = Check.withFirms(1);
        book.keep();
        book.issue(0, 1);
        book.keep();
        book.undo();
        check.is("restore() after undo()", book.restore(), 0);
        check.is("holds(0, 0)", book.holds(0, 0), 1);
        book.undo();
        book.undo();
        check.is("restore() after undo() of all", book.restore(), 0);
        check.is("count(2)", book.count(2), 1);
        check.is("holds(0, 0)", book.holds(0, 0), 1);
    }

    // ---- undo, keep, restore

    private static void undoIsNone() {
        check.sentence("Promise 16", "NONE if the history is empty.");
        AllowanceBook book = new AllowanceBook();
        check.is("undo() of a new one", book.undo(), -5);
        book.type('x');
        book.keep();
        check.is("undo() before an act", book.undo(), -5);
        book.addFirm();
        check.is("undo() of one act", book.undo(), 0);
        check.is("undo() again", book.undo(), -5);
        check.is("count(2)", book.count(2), 0);
    }

    private static void undoReturnsWhatIsLeft() {
        check.sentence("Promise 16", "Returns the number of states that are left");
        AllowanceBook book = Check.withFirms(8);
        for (int left = 3; left >= 0; left--) {
            check.is("undo()", book.undo(), left);
            check.is("count(13)", book.count(13), left);
            check.is("count(2)", book.count(2), 4 + left);
        }
        book.addFirm();
        check.is("undo() of one more", book.undo(), 0);
    }

    private static void keepInPlaceOfTheOneThatWas() {
        check.sentence("Promise 17", "Takes a snapshot of the state, in place of the one that was.");
        AllowanceBook book = Check.withFirms(1);
        book.pass(1);
        book.keep();
        book.pass(1);
        book.keep();
        book.pass(1);
        check.is("restore()", book.restore(), 2);
        book.undo();
        check.is("count(0)", book.count(0), 3);
        check.is("restore()", book.restore(), 2);
    }

    private static void keepReturnsTheMonth() {
        check.sentence("Promise 17", "Returns the month.");
        int[] months = {0, 1, 238, 239};
        for (int month : months) {
            AllowanceBook book = Check.inMonth(0, month);
            check.is("keep() in the month " + month, book.keep(), month);
            check.is("keep() again", book.keep(), month);
        }
    }

    private static void snapshotStays() {
        check.sentence("Promise 18", "Restores the state of the snapshot, which stays.");
        AllowanceBook book = Check.withFirms(1);
        book.issue(0, 5);
        book.keep();
        for (int round = 0; round < 6; round++) {
            book.issue(0, 1);
            book.set(0, 30 + round);
            book.pass(1);
            check.is("restore()", book.restore(), 0);
            check.is("holds(0, 0)", book.holds(0, 0), 5);
            check.is("count(3)", book.count(3), 20);
            check.is("count(0)", book.count(0), 0);
        }
    }

    private static void restoreReturnsTheMonth() {
        check.sentence("Promise 18", "Returns the month then");
        AllowanceBook book = Check.inMonth(1, 5);
        book.keep();
        Check.passTo(book, 239);
        check.is("restore() in the month 239", book.restore(), 5);
        book.undo();
        book.keep();
        book.undo();
        check.is("restore() of the month 239", book.restore(), 239);
        check.is("pass(1)", book.pass(1), -4);
    }

    private static void restoreIsAnAct() {
        check.sentence("Promise 18", "This is an act.");
        AllowanceBook book = new AllowanceBook();
        book.keep();
        for (int states = 1; states <= 6; states++) {
            book.restore();
            check.is("count(13)", book.count(13), Math.min(4, states));
        }
    }

    private static void restoreIsNone() {
        check.sentence("Promise 18", "NONE if there is no snapshot.");
        AllowanceBook book = Check.withFirms(1);
        check.is("restore()", book.restore(), -5);
        check.is("count(2)", book.count(2), 1);
        check.is("count(13)", book.count(13), 1);
        book.keep();
        check.is("restore() after keep()", book.restore(), 0);
    }
}
