/** Promises 16 to 18: undo, keep, restore. */
final class HistoryTest {
    private static final Check check = new Check("history");

    public static void main(String[] args) {
        undoes();
        dropsTheOldest();
        bringsAllBack();
        keepsAndRestores();
        undoesARestore();
        check.end();
    }

    private static void undoes() {
        AllowanceBook book = new AllowanceBook();
        check.is("undo() of nothing", book.undo(), -5);
        book.addFirm();
        book.issue(0, 5);
        check.is("undo()", book.undo(), 1);
        check.is("holds(0, 0)", book.holds(0, 0), 0);
        check.is("undo()", book.undo(), 0);
        check.is("firms", book.count(2), 0);
        check.is("undo() at the end", book.undo(), -5);
        check.is("addFirm()", book.addFirm(), 0);
        check.is("holds(0, 0) of the new firm", book.holds(0, 0), 0);
    }

    private static void dropsTheOldest() {
        AllowanceBook book = Check.withFirms(1);
        for (int i = 1; i <= 10; i++) {
            check.is("issue", book.issue(0, 1), i);
            check.is("states", book.count(13), Math.min(4, i + 1));
        }
        for (int left = 3; left >= 0; left--) {
            check.is("undo()", book.undo(), left);
            check.is("holds(0, 0)", book.holds(0, 0), 6 + left);
        }
        check.is("undo() of what was dropped", book.undo(), -5);
        check.is("holds(0, 0)", book.holds(0, 0), 6);
        book.issue(0, 10);
        book.undo();
        check.is("holds(0, 0) after one more", book.holds(0, 0), 6);
    }

    /** All that can be told of a registry of two firms. */
    private static String told(AllowanceBook book) {
        StringBuilder all = new StringBuilder();
        for (int what = 0; what <= 12; what++) {
            all.append(book.count(what)).append(' ');
        }
        for (int firm = 0; firm < 2; firm++) {
            for (int what = 0; what <= 10; what++) {
                all.append(book.firm(firm, what)).append(' ');
            }
            for (int grade = 0; grade < 3; grade++) {
                for (int what = 0; what < 3; what++) {
                    all.append(book.offsets(firm, grade, what)).append(' ');
                    all.append(book.grade(grade, what)).append(' ');
                }
            }
        }
        for (int vintage = 0; vintage < 3; vintage++) {
            for (int what = 0; what <= 6; what++) {
                all.append(book.vintage(vintage, what)).append(' ');
            }
        }
        return all.toString();
    }

    /** Changes all that a state has. */
    private static void change(AllowanceBook book) {
        for (int setting = 0; setting < 5; setting++) {
            book.set(setting, setting == 3 ? 1 : 30 + setting);
        }
        book.addFirm();
        for (int year = 0; year < 3; year++) {
            for (int firm = 0; firm < 2; firm++) {
                book.issue(firm, 1000 + year);
                book.report(firm, 300);
                book.verify(firm);
                book.report(firm, 7);
                book.cancel(firm, year, 20);
                for (int grade = 0; grade < 3; grade++) {
                    book.issueOffsets(firm, grade, 60);
                }
            }
            book.pass(12);
            book.surrender(0, 250, 2);
        }
        book.report(0, 5);
        book.pass(5);
    }

    private static AllowanceBook changed() {
        AllowanceBook book = Check.withFirms(1);
        book.keep();
        change(book);
        return book;
    }

    private static void bringsAllBack() {
        String atFirst = told(Check.withFirms(1));
        String changed = told(changed());
        check.is("change changes", changed.equals(atFirst) ? 1 : 0, 0);
        AllowanceBook book = changed();
        book.restore();
        check.is("restore brings all back", told(book).equals(atFirst) ? 0 : 1, 0);
        book.undo();
        check.is("undo brings all back", told(book).equals(changed) ? 0 : 1, 0);
        AllowanceBook other = changed();
        other.keep();
        other.restore();
        check.is("keep and restore change nothing", told(other).equals(changed) ? 0 : 1, 0);
    }

    private static void keepsAndRestores() {
        AllowanceBook book = Check.withFirms(1);
        check.is("restore() of nothing", book.restore(), -5);
        check.is("states after NONE", book.count(13), 1);
        check.is("keep()", book.keep(), 0);
        check.is("keep is no act", book.count(13), 1);
        book.issue(0, 5);
        book.pass(7);
        check.is("restore()", book.restore(), 0);
        check.is("restore is an act", book.count(13), 4);
        check.is("holds(0, 0)", book.holds(0, 0), 0);
        book.issue(0, 9);
        check.is("restore() again", book.restore(), 0);
        check.is("holds(0, 0) again", book.holds(0, 0), 0);
        book.pass(7);
        check.is("keep() later", book.keep(), 7);
        book.pass(7);
        check.is("restore() of the later", book.restore(), 7);
        check.is("month", book.count(0), 7);
        book.undo();
        check.is("month after undo", book.count(0), 14);
        check.is("the snapshot outlives undo", book.restore(), 7);
    }

    private static void undoesARestore() {
        AllowanceBook book = Check.withFirms(1);
        book.keep();
        book.issue(0, 5);
        book.restore();
        check.is("undo() of a restore", book.undo(), 2);
        check.is("holds(0, 0)", book.holds(0, 0), 5);
        check.is("undo() of the issue", book.undo(), 1);
        check.is("holds(0, 0)", book.holds(0, 0), 0);
        check.is("restore that changes nothing is an act", book.restore(), 0);
        check.is("states", book.count(13), 2);
    }
}
