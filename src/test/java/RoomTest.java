import com.sun.management.ThreadMXBean;
import java.lang.management.ManagementFactory;

/** What a run makes: rows in the constructor, and nothing in the calls. */
final class RoomTest {
    private static final Check check = new Check("room");
    private static final long BYTES_OF_A_BOOK = 40_000;

    private static final ThreadMXBean THREADS = (ThreadMXBean) ManagementFactory.getThreadMXBean();

    public static void main(String[] args) {
        // the machine itself makes some bytes now and then, so that the least of several runs is looked at
        long leastOfBook = Long.MAX_VALUE;
        long leastOfCalls = Long.MAX_VALUE;
        for (int i = 0; i < 20; i++) {
            long start = made();
            AllowanceBook book = new AllowanceBook();
            long withBook = made();
            run(book);
            leastOfCalls = Math.min(leastOfCalls, made() - withBook);
            leastOfBook = Math.min(leastOfBook, withBook - start);
        }
        check.is("a book of " + leastOfBook + " bytes is small", leastOfBook < BYTES_OF_A_BOOK ? 1 : 0, 1);
        check.is("bytes made by calls", leastOfCalls, 0);
        check.end();
    }

    private static long made() {
        return THREADS.getThreadAllocatedBytes(Thread.currentThread().getId());
    }

    /** Every method, the dearest ones often. */
    private static void run(AllowanceBook book) {
        for (int i = 0; i < 8; i++) {
            book.addFirm();
        }
        for (int year = 0; year < 15; year++) {
            book.set(year % 5, year % 7);
            book.issue(0, 900);
            book.issueOffsets(0, 2, 90);
            book.transfer(0, 1, year, 9);
            book.transferOffsets(0, 1, 2, 9);
            book.cancel(0, year, 1);
            book.report(0, 500);
            book.verify(0);
            book.report(0, 5);
            book.pass(12);
            book.surrender(0, 200, 2);
            book.plan(0, 100, 1, 5);
            book.clearText();
            book.type((char) ('0' + year % 2));
            book.type('>');
            book.type('2');
            book.type(':');
            book.type('0');
            book.type('*');
            book.type('1');
            book.readTransfers();
            book.keep();
            book.undo();
            book.restore();
            book.firm(0, 10);
            book.holds(0, year);
            book.offsets(0, 2, 1);
            book.vintage(year, 6);
            book.grade(2, 1);
            book.holder(year, 1);
            book.count(8);
        }
    }
}
