/** Promises 1 to 3: a new object, addFirm, set. */
final class FirmsAndSettingsTest {
    private static final Check check = new Check("firms and settings");

    public static void main(String[] args) {
        newObject();
        addsFirms();
        sets();
        refusesSettings();
        settingsAct();
        check.end();
    }

    private static void newObject() {
        AllowanceBook book = new AllowanceBook();
        int[] due = {0, 0, 0, 20, 10, 5, 3, 50, 0, 0, 0, 0, 16, 0, 0};
        for (int what = 0; what < due.length; what++) {
            check.is("count(" + what + ") of a new one", book.count(what), due[what]);
        }
        check.is("firm(0, 0) of a new one", book.firm(0, 0), -1);
        check.is("undo() of a new one", book.undo(), -5);
        check.is("restore() of a new one", book.restore(), -5);
        check.is("readTransfers() of a new one", book.readTransfers(), -100);
        AllowanceBook other = new AllowanceBook();
        book.addFirm();
        book.set(3, 5);
        check.is("another one's firms", other.count(2), 0);
        check.is("another one's bank", other.count(6), 3);
        check.is("a later one's bank", new AllowanceBook().count(6), 3);
    }

    private static void addsFirms() {
        AllowanceBook book = new AllowanceBook();
        for (int i = 0; i < 8; i++) {
            check.is("firm before addFirm", book.firm(i, 0), -1);
            check.is("addFirm()", book.addFirm(), i);
            check.is("count(2)", book.count(2), i + 1);
            for (int what = 0; what <= 10; what++) {
                check.is("firm(i, " + what + ")", book.firm(i, what), what == 2 || what == 3 ? -5 : 0);
            }
        }
        check.is("states", book.count(13), 4);
        book.undo();
        check.is("addFirm() after undo", book.addFirm(), 7);
        book.undo();
        book.addFirm();
        check.is("addFirm() for a ninth", book.addFirm(), -3);
        check.is("count(2) after it", book.count(2), 8);
        check.is("firm(8, 0)", book.firm(8, 0), -1);
        check.is("states after FULL", book.count(13), 4);
    }

    private static void sets() {
        AllowanceBook book = new AllowanceBook();
        int[] first = {20, 10, 5, 3, 50};
        int[] least = {0, 0, 0, 1, 0};
        int[] most = {100, 100, 100, 5, 99};
        for (int what = 0; what < 5; what++) {
            check.is("set as it is", book.set(what, first[what]), -5);
            check.is("set below", book.set(what, least[what] - 1), -2);
            check.is("set above", book.set(what, most[what] + 1), -2);
            check.is("set the least", book.set(what, least[what]), first[what]);
            check.is("count of the least", book.count(3 + what), least[what]);
            check.is("set the most", book.set(what, most[what]), least[what]);
            check.is("count of the most", book.count(3 + what), most[what]);
            check.is("set the most again", book.set(what, most[what]), -5);
        }
    }

    private static void refusesSettings() {
        AllowanceBook book = new AllowanceBook();
        int[] strange = {-1, 5, 6, Integer.MIN_VALUE, Integer.MAX_VALUE};
        for (int value : strange) {
            check.is("set(" + value + ", 1)", book.set(value, 1), -2);
        }
        for (int what = 0; what < 5; what++) {
            check.is("set(.., MIN)", book.set(what, Integer.MIN_VALUE), -2);
            check.is("set(.., MAX)", book.set(what, Integer.MAX_VALUE), -2);
        }
        check.is("states after errors", book.count(13), 0);
    }

    private static void settingsAct() {
        AllowanceBook book = new AllowanceBook();
        book.set(3, 3);
        check.is("states after NONE", book.count(13), 0);
        book.set(3, 4);
        check.is("states after set", book.count(13), 1);
        book.undo();
        check.is("bank after undo", book.count(6), 3);
    }
}
