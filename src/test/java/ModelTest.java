import java.util.Random;

/** All promises together: long runs of calls, whose answers are those of NaiveBook. The seeds are fixed. */
final class ModelTest {
    private static final Check check = new Check("model");
    private static final int RUNS = 2500;
    /** Nothing is promised of an object after these. */
    private static final int CALLS = 512;
    private static final int MOST_CALLS_OF_A_STEP = 100;
    private static final String SIGNS = "0123456789>:*;0123 x";

    private final Random random;
    private final AllowanceBook book = new AllowanceBook();
    private final NaiveBook naive = new NaiveBook();
    private final int tonnesBound;
    private final boolean isCareful;
    private int calls = 0;

    private ModelTest(int seed) {
        random = new Random(seed);
        int[] bounds = {12, 120, 1500, 10005};
        tonnesBound = bounds[seed % 4];
        isCareful = seed % 3 != 0;
    }

    public static void main(String[] args) {
        for (int seed = 0; seed < RUNS; seed++) {
            new ModelTest(seed).run(seed);
        }
        check.end();
    }

    private void run(int seed) {
        int firms = 1 + random.nextInt(isCareful ? 3 : 8);
        for (int i = 0; i < firms; i++) {
            same("addFirm()", book.addFirm(), naive.addFirm());
        }
        for (int i = random.nextInt(seed % 5 == 0 ? 10 : 1); i > 0; i--) {
            same("pass(24)", book.pass(24), naive.pass(24));
        }
        while (calls <= CALLS - MOST_CALLS_OF_A_STEP) {
            String at = "run " + seed + ", call " + (calls + 1) + ": ";
            if (random.nextInt(6) == 0) {
                tell(at);
            } else {
                act(at);
            }
        }
    }

    /** Mostly a number from least to most, and sometimes a strange one. */
    private int number(int least, int most) {
        int kind = random.nextInt(isCareful ? 120 : 25);
        if (kind == 0) {
            return least - 1;
        }
        if (kind == 1) {
            return most + 1;
        }
        if (kind == 2) {
            return random.nextInt();
        }
        return least + random.nextInt(most - least + 1);
    }

    private int firm() {
        return number(0, Math.max(0, naive.count(2) - 1));
    }

    private int vintage() {
        return random.nextInt(8) == 0 ? number(0, 19) : Math.max(0, number(naive.count(1) - 3, naive.count(1)));
    }

    private int tonnes() {
        return number(1, tonnesBound);
    }

    private void act(String at) {
        int a = firm();
        int b = firm();
        int g = number(0, 2);
        int v = vintage();
        int t = tonnes();
        switch (random.nextInt(30)) {
            case 0: same(at + "addFirm()", book.addFirm(), naive.addFirm()); break;
            case 1: case 2: setSomething(at); break;
            case 3: case 4: case 5: case 6: same(at + "issue", book.issue(a, t), naive.issue(a, t)); break;
            case 7: case 8:
                same(at + "issueOffsets", book.issueOffsets(a, g, t), naive.issueOffsets(a, g, t)); break;
            case 9: case 10: same(at + "transfer", book.transfer(a, b, v, t), naive.transfer(a, b, v, t)); break;
            case 11:
                same(at + "transferOffsets", book.transferOffsets(a, b, g, t), naive.transferOffsets(a, b, g, t)); break;
            case 12: same(at + "cancel", book.cancel(a, v, t), naive.cancel(a, v, t)); break;
            case 13: case 14: case 15: same(at + "report", book.report(a, t), naive.report(a, t)); break;
            case 16: same(at + "verify", book.verify(a), naive.verify(a)); break;
            case 17: case 18: case 19: case 20:
                same(at + "surrender", book.surrender(a, t, g), naive.surrender(a, t, g)); break;
            case 21: case 22: case 23: case 24: passSomeMonths(at); break;
            case 25: case 26: writeSomething(at); break;
            case 27: case 28: same(at + "undo()", book.undo(), naive.undo()); break;
            default: keepOrRestore(at); break;
        }
    }

    private void setSomething(String at) {
        int what = number(0, 4);
        int value = number(0, what == 3 ? 5 : 100);
        same(at + "set(" + what + ", " + value + ")", book.set(what, value), naive.set(what, value));
    }

    private void passSomeMonths(String at) {
        int months = number(1, random.nextInt(5) == 0 ? 24 : 4);
        same(at + "pass(" + months + ")", book.pass(months), naive.pass(months));
    }

    private void keepOrRestore(String at) {
        if (random.nextBoolean()) {
            same(at + "keep()", book.keep(), naive.keep());
        } else {
            same(at + "restore()", book.restore(), naive.restore());
        }
    }

    private void writeSomething(String at) {
        if (random.nextInt(3) == 0) {
            same(at + "clearText()", book.clearText(), naive.clearText());
        }
        int transfers = 1 + random.nextInt(random.nextInt(8) == 0 ? 8 : 3);
        StringBuilder text = new StringBuilder(naive.count(14) == 0 ? "" : ";");
        for (int i = 0; i < transfers; i++) {
            text.append(i == 0 ? "" : ";").append(random.nextInt(Math.max(1, naive.count(2)))).append('>');
            text.append(random.nextInt(Math.max(1, naive.count(2)))).append(':').append(Math.max(0, vintage()) % 100);
            text.append('*').append(1 + random.nextInt(Math.min(tonnesBound, 9999)));
        }
        if (random.nextInt(3) == 0) {
            text.setCharAt(random.nextInt(text.length()), SIGNS.charAt(random.nextInt(SIGNS.length())));
        }
        if (random.nextInt(6) == 0) {
            text.setLength(random.nextInt(text.length()));
        }
        for (int i = 0; i < text.length(); i++) {
            same(at + "type", book.type(text.charAt(i)), naive.type(text.charAt(i)));
        }
        same(at + "readTransfers() of " + text, book.readTransfers(), naive.readTransfers());
    }

    private void tell(String at) {
        int a = firm();
        int g = number(0, 2);
        int v = vintage();
        int t = tonnes();
        int what = number(0, 2);
        int place = number(0, 4);
        int way = number(0, 2);
        int ofPlan = number(0, 5);
        int ofFirm = number(0, 10);
        int ofVintage = number(0, 6);
        int ofCount = number(0, 14);
        same(at + "firm " + ofFirm, book.firm(a, ofFirm), naive.firm(a, ofFirm));
        same(at + "holds", book.holds(a, v), naive.holds(a, v));
        same(at + "offsets " + what, book.offsets(a, g, what), naive.offsets(a, g, what));
        same(at + "vintage " + ofVintage, book.vintage(v, ofVintage), naive.vintage(v, ofVintage));
        same(at + "grade " + what, book.grade(g, what), naive.grade(g, what));
        same(at + "holder", book.holder(v, place), naive.holder(v, place));
        same(at + "plan " + ofPlan, book.plan(a, t, way, ofPlan), naive.plan(a, t, way, ofPlan));
        same(at + "count " + ofCount, book.count(ofCount), naive.count(ofCount));
    }

    private void same(String call, int answer, int due) {
        calls++;
        check.is(call, answer, due);
    }
}
