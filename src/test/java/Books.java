/** Registries in which much is held, owed, used, typed and kept, so that whatever a call changes can be seen. */
final class Books {
    private Books() {
    }

    /**
     * Three firms in the month 29, with all four states of a history, a snapshot of another state, and a text of a
     * transfer that can be made. The firm 0 holds 40, 50 and 60 of the vintages 0 to 2; 194 tonnes are due of it, of
     * which 64 can be surrendered by offsets. The firm 2 has nothing. The vintage 0 is lost in the month 36.
     */
    static AllowanceBook rich() {
        AllowanceBook book = Check.withFirms(3);
        book.set(3, 2);
        book.issue(0, 100);
        book.issue(1, 30);
        book.report(0, 50);
        book.verify(0);
        book.pass(12);
        book.issue(0, 50);
        book.cancel(0, 0, 10);
        book.surrender(0, 50, 0);
        book.report(0, 200);
        book.verify(0);
        book.report(1, 30);
        book.keep();
        book.pass(12);
        book.issue(0, 60);
        for (int grade = 0; grade <= 2; grade++) {
            book.issueOffsets(0, grade, 50);
        }
        book.issueOffsets(1, 2, 7);
        book.report(0, 70);
        book.pass(5);
        book.surrender(0, 4, 2);
        book.surrender(0, 2, 2);
        book.report(0, 3);
        book.verify(1);
        book.verify(0);
        book.report(0, 5);
        book.issue(0, 1);
        book.cancel(0, 2, 1);
        Check.write(book, "0>1:0*5");
        return book;
    }

    /** As rich, but with two states in the history. */
    static AllowanceBook half() {
        AllowanceBook book = rich();
        book.undo();
        book.undo();
        return book;
    }

    /** Eight firms in the month 12, the first of which may not report any more, and a text of 60 characters. */
    static AllowanceBook full() {
        AllowanceBook book = Check.withFirms(8);
        book.pass(12);
        book.keep();
        for (int firm = 0; firm < 8; firm++) {
            book.issue(firm, 10 + firm);
        }
        book.report(0, 9000);
        book.verify(0);
        book.report(0, 999);
        Check.write(book, "0>1:1*1;0>1:1*1;0>1:1*1;0>1:1*1;0>1:1*1;1>0:1*1;1>0:1*1;1>0:");
        return book;
    }

    /** Two firms in the month 238 with allowances and offsets, the first of which has tonnes due. */
    static AllowanceBook late() {
        AllowanceBook book = Check.inMonth(2, 226);
        book.report(0, 400);
        book.verify(0);
        book.pass(12);
        book.issue(0, 500);
        book.issueOffsets(0, 1, 90);
        book.surrender(0, 50, 2);
        return book;
    }
}
