/**
 * A registry of allowances by vintages: what firms are issued, emit and surrender, what is banked, lost and fined,
 * with texts of transfers, undo and a snapshot.
 */
public final class AllowanceBook {
    /** There is no such firm, vintage or grade. */
    public static final int UNKNOWN = -1;
    /** Another argument is out of range. */
    public static final int BAD_VALUE = -2;
    /** There is no more room. */
    public static final int FULL = -3;
    /** This is not possible. */
    public static final int NOT_POSSIBLE = -4;
    /** There is no such thing; not an error. */
    public static final int NONE = -5;

    private static final int NO_ERROR = 0;

    private static final int MOST_FIRMS = 8;
    private static final int VINTAGES = 20;
    private static final int GRADES = 3;
    private static final int MOST_TONNES = 9999;

    private static final int YEAR = 12;
    private static final int LAST_MONTH = VINTAGES * YEAR - 1;
    private static final int MOST_MONTHS_AT_ONCE = 24;
    private static final int DEADLINE = 4;

    /** The settings 0 to 2 are the limits of the grades. */
    private static final int BANK = 3;
    private static final int FINE = 4;
    private static final int SETTINGS = 5;
    private static final int[] FIRST_SETTINGS = {20, 10, 5, 3, 50};
    private static final int[] LEAST_SETTINGS = {0, 0, 0, 1, 0};
    private static final int[] MOST_SETTINGS = {100, 100, 100, 5, 99};
    /** What count() calls the setting 0. */
    private static final int COUNT_OF_SETTINGS = 3;

    private static final int OLDEST_FIRST = 0;
    private static final int NEWEST_FIRST = 1;
    private static final int OFFSETS_FIRST = 2;

    private static final int MOST_STATES = 4;

    private static final int TEXT_SIZE = 60;
    private static final int SHORTEST_TRANSFER = 7;
    /** One more than a text has room for: the last of these can begin there, but not end. */
    private static final int MOST_TRANSFERS = TEXT_SIZE / SHORTEST_TRANSFER;
    private static final int MOST_VINTAGE_DIGITS = 2;
    private static final int MOST_TONNES_DIGITS = 4;
    private static final int FAULT_AT_START = -100;

    private final State present;
    private final State kept;
    private final State trial;
    private final History past;
    private final Taking taking;
    private final Text text;
    private boolean hasKept;

    /** Creates a registry without firms. */
    public AllowanceBook() {
        // all rows are made here and used again, so that no call makes an object
        present = new State();
        kept = new State();
        trial = new State();
        past = new History();
        taking = new Taking();
        text = new Text();
        hasKept = false;
    }

    // ---- firms and settings

    /** Adds a firm that holds nothing; returns its number, or FULL. */
    public int addFirm() {
        if (present.firmCount >= MOST_FIRMS) {
            return FULL;
        }
        past.push(present);
        present.firmCount++;
        return present.firmCount - 1;
    }

    /** Sets a setting; returns the previous value, BAD_VALUE, or NONE if it is so already. */
    public int set(int what, int value) {
        if (what < 0 || what >= SETTINGS || value < LEAST_SETTINGS[what] || value > MOST_SETTINGS[what]) {
            return BAD_VALUE;
        }
        int previous = present.settings[what];
        if (value == previous) {
            return NONE;
        }
        past.push(present);
        present.settings[what] = value;
        return previous;
    }

    // ---- allowances and offsets

    /** Issues allowances of the present year; returns what the firm holds of them, UNKNOWN or BAD_VALUE. */
    public int issue(int firm, int tonnes) {
        Firm owner = present.firmAt(firm);
        if (owner == null) {
            return UNKNOWN;
        }
        if (!isTonnes(tonnes)) {
            return BAD_VALUE;
        }
        past.push(present);
        int year = present.year();
        owner.held[year] += tonnes;
        present.issued[year] += tonnes;
        return owner.held[year];
    }

    /** Issues offsets; returns what the firm holds of the grade, UNKNOWN or BAD_VALUE. */
    public int issueOffsets(int firm, int grade, int tonnes) {
        Firm owner = present.firmAt(firm);
        if (owner == null || !isGrade(grade)) {
            return UNKNOWN;
        }
        if (!isTonnes(tonnes)) {
            return BAD_VALUE;
        }
        past.push(present);
        owner.offsetsHeld[grade] += tonnes;
        present.offsetsIssued[grade] += tonnes;
        return owner.offsetsHeld[grade];
    }

    /** Transfers allowances; returns what the first firm is left of the vintage, or an error. */
    public int transfer(int from, int to, int vintage, int tonnes) {
        int error = present.moveError(from, to, vintage, tonnes);
        if (error != NO_ERROR) {
            return error;
        }
        past.push(present);
        return present.move(from, to, vintage, tonnes);
    }

    /** Transfers offsets; returns what the first firm is left of the grade, or an error. */
    public int transferOffsets(int from, int to, int grade, int tonnes) {
        Firm giver = present.firmAt(from);
        Firm taker = present.firmAt(to);
        if (giver == null || taker == null || !isGrade(grade)) {
            return UNKNOWN;
        }
        if (!isTonnes(tonnes) || from == to) {
            return BAD_VALUE;
        }
        if (giver.offsetsHeld[grade] < tonnes) {
            return NOT_POSSIBLE;
        }
        past.push(present);
        giver.offsetsHeld[grade] -= tonnes;
        taker.offsetsHeld[grade] += tonnes;
        return giver.offsetsHeld[grade];
    }

    /** Cancels allowances for nothing; returns what the firm is left of the vintage, or an error. */
    public int cancel(int firm, int vintage, int tonnes) {
        Firm owner = present.firmAt(firm);
        if (owner == null || !isVintage(vintage)) {
            return UNKNOWN;
        }
        if (!isTonnes(tonnes)) {
            return BAD_VALUE;
        }
        if (owner.held[vintage] < tonnes) {
            return NOT_POSSIBLE;
        }
        past.push(present);
        owner.held[vintage] -= tonnes;
        present.cancelled[vintage] += tonnes;
        return owner.held[vintage];
    }

    // ---- emissions

    /** Reports emissions; returns what is reported and not verified, UNKNOWN, BAD_VALUE or FULL. */
    public int report(int firm, int tonnes) {
        Firm emitter = present.firmAt(firm);
        if (emitter == null) {
            return UNKNOWN;
        }
        if (!isTonnes(tonnes)) {
            return BAD_VALUE;
        }
        if (emitter.reported + emitter.verified + tonnes > MOST_TONNES) {
            return FULL;
        }
        past.push(present);
        emitter.reported += tonnes;
        return emitter.reported;
    }

    /** Verifies what is reported; returns all that is verified of this year, UNKNOWN, or NONE. */
    public int verify(int firm) {
        Firm emitter = present.firmAt(firm);
        if (emitter == null) {
            return UNKNOWN;
        }
        if (emitter.reported == 0) {
            return NONE;
        }
        past.push(present);
        emitter.verified += emitter.reported;
        emitter.reported = 0;
        return emitter.verified;
    }

    /** Surrenders tonnes in one of three ways; returns what is due then, or an error. */
    public int surrender(int firm, int tonnes, int way) {
        Firm owner = present.firmAt(firm);
        if (owner == null) {
            return UNKNOWN;
        }
        if (!isTonnes(tonnes) || !isWay(way)) {
            return BAD_VALUE;
        }
        if (owner.due < tonnes) {
            return NOT_POSSIBLE;
        }
        taking.workOut(owner, present.settings, tonnes, way);
        if (taking.missing > 0) {
            return NOT_POSSIBLE;
        }
        past.push(present);
        present.takeFrom(owner, taking);
        owner.due -= tonnes;
        owner.surrendered += tonnes;
        return owner.due;
    }

    /** Lets months pass; returns the coins of all fines in them, BAD_VALUE or NOT_POSSIBLE. */
    public int pass(int months) {
        if (months < 1 || months > MOST_MONTHS_AT_ONCE) {
            return BAD_VALUE;
        }
        if (present.month + months > LAST_MONTH) {
            return NOT_POSSIBLE;
        }
        past.push(present);
        int coins = 0;
        for (int passed = 0; passed < months; passed++) {
            coins += present.beginMonth();
        }
        return coins;
    }

    // ---- texts

    /** Types a character behind the text; returns the length then, or FULL. */
    public int type(char character) {
        if (text.length >= TEXT_SIZE) {
            return FULL;
        }
        text.characters[text.length] = character;
        text.length++;
        return text.length;
    }

    /** Empties the text; returns the length that it had. */
    public int clearText() {
        int length = text.length;
        text.length = 0;
        return length;
    }

    /** Makes all transfers of the text, or none; returns how many, -100 minus a fault, or transfer()'s error. */
    public int readTransfers() {
        if (!text.readAll()) {
            return FAULT_AT_START - text.at;
        }
        copyState(present, trial);
        for (int i = 0; i < text.transfers; i++) {
            int error = trial.moveError(text.froms[i], text.tos[i], text.vintages[i], text.tonnes[i]);
            if (error != NO_ERROR) {
                return error;
            }
            trial.move(text.froms[i], text.tos[i], text.vintages[i], text.tonnes[i]);
        }
        past.push(present);
        copyState(trial, present);
        return text.transfers;
    }

    // ---- history

    /** Goes back to the latest state of the history; returns how many are left, or NONE. */
    public int undo() {
        if (past.size == 0) {
            return NONE;
        }
        past.popInto(present);
        return past.size;
    }

    /** Takes a snapshot; returns the month. */
    public int keep() {
        copyState(present, kept);
        hasKept = true;
        return present.month;
    }

    /** Goes back to the snapshot; returns the month then, or NONE. */
    public int restore() {
        if (!hasKept) {
            return NONE;
        }
        past.push(present);
        copyState(kept, present);
        return present.month;
    }

    // ---- what is told

    /** Tells a number of a firm, UNKNOWN or BAD_VALUE. */
    public int firm(int firm, int what) {
        Firm told = present.firmAt(firm);
        if (told == null) {
            return UNKNOWN;
        }
        switch (what) {
            case 0: return told.allowances();
            case 1: return told.vintagesHeld();
            case 2: return told.oldestHeld();
            case 3: return told.newestHeld();
            case 4: return told.reported;
            case 5: return told.verified;
            case 6: return told.base;
            case 7: return told.due;
            case 8: return told.surrendered;
            case 9: return told.fines;
            case 10: return told.dueAtBest(present.settings);
            default: return BAD_VALUE;
        }
    }

    /** Tells what a firm holds of a vintage, or UNKNOWN. */
    public int holds(int firm, int vintage) {
        Firm told = present.firmAt(firm);
        if (told == null || !isVintage(vintage)) {
            return UNKNOWN;
        }
        return told.held[vintage];
    }

    /** Tells a number of a firm's offsets, UNKNOWN or BAD_VALUE. */
    public int offsets(int firm, int grade, int what) {
        Firm told = present.firmAt(firm);
        if (told == null || !isGrade(grade)) {
            return UNKNOWN;
        }
        switch (what) {
            case 0: return told.offsetsHeld[grade];
            case 1: return told.mayUse(grade, present.settings[grade]);
            case 2: return told.offsetsUsed[grade];
            default: return BAD_VALUE;
        }
    }

    /** Tells a number of a vintage, UNKNOWN or BAD_VALUE. */
    public int vintage(int vintage, int what) {
        if (!isVintage(vintage)) {
            return UNKNOWN;
        }
        switch (what) {
            case 0: return present.issued[vintage];
            case 1: return present.heldOf(vintage);
            case 2: return present.surrendered[vintage];
            case 3: return present.cancelled[vintage];
            case 4: return present.lost[vintage];
            case 5: return present.holdersOf(vintage);
            case 6: return present.monthsUntilLost(vintage);
            default: return BAD_VALUE;
        }
    }

    /** Tells a number of a grade, UNKNOWN or BAD_VALUE. */
    public int grade(int grade, int what) {
        if (!isGrade(grade)) {
            return UNKNOWN;
        }
        switch (what) {
            case 0: return present.offsetsIssued[grade];
            case 1: return present.offsetsHeldOf(grade);
            case 2: return present.offsetsSurrendered[grade];
            default: return BAD_VALUE;
        }
    }

    /** Tells which firm is at a place among those that hold any of a vintage; UNKNOWN, BAD_VALUE or NONE. */
    public int holder(int vintage, int place) {
        if (!isVintage(vintage)) {
            return UNKNOWN;
        }
        if (place < 0) {
            return BAD_VALUE;
        }
        return present.holderAt(vintage, place);
    }

    /** Tells what a surrender would take, whether it is due or not; UNKNOWN, BAD_VALUE or NOT_POSSIBLE. */
    public int plan(int firm, int tonnes, int way, int what) {
        Firm owner = present.firmAt(firm);
        if (owner == null) {
            return UNKNOWN;
        }
        if (!isTonnes(tonnes) || !isWay(way) || what < 0 || what > 5) {
            return BAD_VALUE;
        }
        taking.workOut(owner, present.settings, tonnes, way);
        if (taking.missing > 0) {
            return NOT_POSSIBLE;
        }
        switch (what) {
            case 0: return taking.allAllowances;
            case 1: return taking.offsetsTaken[0];
            case 2: return taking.offsetsTaken[1];
            case 3: return taking.offsetsTaken[2];
            case 4: return taking.vintagesTouched;
            default: return taking.firstTouched;
        }
    }

    /** Tells a number of the whole registry, or BAD_VALUE. */
    public int count(int what) {
        if (what >= COUNT_OF_SETTINGS && what < COUNT_OF_SETTINGS + SETTINGS) {
            return present.settings[what - COUNT_OF_SETTINGS];
        }
        switch (what) {
            case 0: return present.month;
            case 1: return present.year();
            case 2: return present.firmCount;
            case 8: return present.allDue();
            case 9: return present.allFines();
            case 10: return present.allHeld();
            case 11: return present.allLost();
            case 12: return present.monthsUntilDeadline();
            case 13: return past.size;
            case 14: return text.length;
            default: return BAD_VALUE;
        }
    }

    // ---- what the arguments may be

    private static boolean isVintage(int vintage) {
        return vintage >= 0 && vintage < VINTAGES;
    }

    private static boolean isGrade(int grade) {
        return grade >= 0 && grade < GRADES;
    }

    private static boolean isTonnes(int tonnes) {
        return tonnes >= 1 && tonnes <= MOST_TONNES;
    }

    private static boolean isWay(int way) {
        return way >= OLDEST_FIRST && way <= OFFSETS_FIRST;
    }

    // ---- copies

    private static void copyState(State from, State to) {
        if (from == null || to == null) {
            return;
        }
        to.month = from.month;
        to.firmCount = from.firmCount;
        copyNumbers(from.settings, to.settings);
        copyNumbers(from.issued, to.issued);
        copyNumbers(from.surrendered, to.surrendered);
        copyNumbers(from.cancelled, to.cancelled);
        copyNumbers(from.lost, to.lost);
        copyNumbers(from.offsetsIssued, to.offsetsIssued);
        copyNumbers(from.offsetsSurrendered, to.offsetsSurrendered);
        for (int i = 0; i < MOST_FIRMS; i++) {
            copyFirm(from.firms[i], to.firms[i]);
        }
    }

    private static void copyFirm(Firm from, Firm to) {
        if (from == null || to == null) {
            return;
        }
        copyNumbers(from.held, to.held);
        copyNumbers(from.offsetsHeld, to.offsetsHeld);
        copyNumbers(from.offsetsUsed, to.offsetsUsed);
        to.reported = from.reported;
        to.verified = from.verified;
        to.base = from.base;
        to.due = from.due;
        to.surrendered = from.surrendered;
        to.fines = from.fines;
    }

    private static void copyNumbers(int[] from, int[] to) {
        System.arraycopy(from, 0, to, 0, Math.min(from.length, to.length));
    }

    /** What one firm holds, emits and owes. */
    private static final class Firm {
        final int[] held;
        final int[] offsetsHeld;
        final int[] offsetsUsed;
        /** Of this year, and not verified yet. */
        int reported;
        /** Of this year. */
        int verified;
        int base;
        int due;
        int surrendered;
        int fines;

        Firm() {
            held = new int[VINTAGES];
            offsetsHeld = new int[GRADES];
            offsetsUsed = new int[GRADES];
        }

        int allowances() {
            int sum = 0;
            for (int tonnes : held) {
                sum += tonnes;
            }
            return sum;
        }

        int vintagesHeld() {
            int number = 0;
            for (int tonnes : held) {
                if (tonnes > 0) {
                    number++;
                }
            }
            return number;
        }

        int oldestHeld() {
            for (int vintage = 0; vintage < VINTAGES; vintage++) {
                if (held[vintage] > 0) {
                    return vintage;
                }
            }
            return NONE;
        }

        int newestHeld() {
            for (int vintage = VINTAGES - 1; vintage >= 0; vintage--) {
                if (held[vintage] > 0) {
                    return vintage;
                }
            }
            return NONE;
        }

        int mayUse(int grade, int limit) {
            return Math.max(0, base * limit / 100 - offsetsUsed[grade]);
        }

        /** What it may use and holds. */
        int canUse(int grade, int limit) {
            return Math.min(offsetsHeld[grade], mayUse(grade, limit));
        }

        /** What would stay due if all that can be used were surrendered. */
        int dueAtBest(int[] limits) {
            int most = allowances();
            for (int grade = 0; grade < GRADES; grade++) {
                most += canUse(grade, limits[grade]);
            }
            return Math.max(0, due - most);
        }

        /** Ends a year: what was emitted in it is due from now on. */
        void closeYear() {
            int tenth = (reported + 9) / 10;
            base = verified + reported + tenth;
            due += base;
            reported = 0;
            verified = 0;
            for (int grade = 0; grade < GRADES; grade++) {
                offsetsUsed[grade] = 0;
            }
        }
    }

    /** All that undo and the snapshot bring back. */
    private static final class State {
        /** Never more than LAST_MONTH, so that the year is always a vintage. */
        int month;
        int firmCount;
        final int[] settings;
        /** Those from firmCount on are empty: loops over all of them need not leave them out. */
        final Firm[] firms;
        final int[] issued;
        final int[] surrendered;
        final int[] cancelled;
        final int[] lost;
        final int[] offsetsIssued;
        final int[] offsetsSurrendered;

        State() {
            settings = FIRST_SETTINGS.clone();
            firms = new Firm[MOST_FIRMS];
            for (int i = 0; i < MOST_FIRMS; i++) {
                firms[i] = new Firm();
            }
            issued = new int[VINTAGES];
            surrendered = new int[VINTAGES];
            cancelled = new int[VINTAGES];
            lost = new int[VINTAGES];
            offsetsIssued = new int[GRADES];
            offsetsSurrendered = new int[GRADES];
        }

        /** The firm of this number, or null if there is none. */
        Firm firmAt(int number) {
            return number >= 0 && number < firmCount && number < MOST_FIRMS ? firms[number] : null;
        }

        int year() {
            return month / YEAR;
        }

        int moveError(int from, int to, int vintage, int tonnes) {
            Firm giver = firmAt(from);
            if (giver == null || firmAt(to) == null || !isVintage(vintage)) {
                return UNKNOWN;
            }
            if (!isTonnes(tonnes) || from == to) {
                return BAD_VALUE;
            }
            return giver.held[vintage] < tonnes ? NOT_POSSIBLE : NO_ERROR;
        }

        /** Moves allowances for which moveError() finds no error; returns what the giver has left. */
        int move(int from, int to, int vintage, int tonnes) {
            Firm giver = firmAt(from);
            Firm taker = firmAt(to);
            if (giver == null || taker == null || !isVintage(vintage)) {
                return UNKNOWN;
            }
            giver.held[vintage] -= tonnes;
            taker.held[vintage] += tonnes;
            return giver.held[vintage];
        }

        void takeFrom(Firm owner, Taking taking) {
            for (int vintage = 0; vintage < VINTAGES; vintage++) {
                int tonnes = taking.allowancesTaken[vintage];
                owner.held[vintage] -= tonnes;
                surrendered[vintage] += tonnes;
            }
            for (int grade = 0; grade < GRADES; grade++) {
                int tonnes = taking.offsetsTaken[grade];
                owner.offsetsHeld[grade] -= tonnes;
                owner.offsetsUsed[grade] += tonnes;
                offsetsSurrendered[grade] += tonnes;
            }
        }

        /** Returns the coins of the fines in the month that begins. */
        int beginMonth() {
            month++;
            if (month % YEAR == 0) {
                beginYear();
            }
            return month % YEAR == DEADLINE && year() != 0 ? fineAll() : 0;
        }

        void beginYear() {
            for (Firm each : firms) {
                each.closeYear();
            }
            for (int vintage = 0; vintage < VINTAGES; vintage++) {
                if (year() > vintage + settings[BANK]) {
                    loseAll(vintage);
                }
            }
        }

        void loseAll(int vintage) {
            for (Firm each : firms) {
                lost[vintage] += each.held[vintage];
                each.held[vintage] = 0;
            }
        }

        int fineAll() {
            int coins = 0;
            for (Firm each : firms) {
                int fine = each.due * settings[FINE];
                each.fines += fine;
                coins += fine;
            }
            return coins;
        }

        int heldOf(int vintage) {
            int sum = 0;
            for (Firm each : firms) {
                sum += each.held[vintage];
            }
            return sum;
        }

        int holdersOf(int vintage) {
            int number = 0;
            for (Firm each : firms) {
                if (each.held[vintage] > 0) {
                    number++;
                }
            }
            return number;
        }

        int offsetsHeldOf(int grade) {
            int sum = 0;
            for (Firm each : firms) {
                sum += each.offsetsHeld[grade];
            }
            return sum;
        }

        int monthsUntilLost(int vintage) {
            if (holdersOf(vintage) == 0) {
                return NONE;
            }
            // a bank that was set since can't take what is too old before a year begins
            int yearOfLoss = Math.max(vintage + settings[BANK], year()) + 1;
            return yearOfLoss * YEAR - month;
        }

        int holderAt(int vintage, int place) {
            for (int number = 0; number < MOST_FIRMS; number++) {
                if (firms[number].held[vintage] > 0 && holdersAhead(vintage, number) == place) {
                    return number;
                }
            }
            return NONE;
        }

        /** How many firms hold more than this one, or as much with a lower number. */
        int holdersAhead(int vintage, int number) {
            int own = firms[number].held[vintage];
            int ahead = 0;
            for (int other = 0; other < MOST_FIRMS; other++) {
                int tonnes = firms[other].held[vintage];
                if (tonnes > own || tonnes == own && other < number) {
                    ahead++;
                }
            }
            return ahead;
        }

        int allDue() {
            int sum = 0;
            for (Firm each : firms) {
                sum += each.due;
            }
            return sum;
        }

        int allFines() {
            int sum = 0;
            for (Firm each : firms) {
                sum += each.fines;
            }
            return sum;
        }

        int allHeld() {
            int sum = 0;
            for (Firm each : firms) {
                sum += each.allowances();
            }
            return sum;
        }

        int allLost() {
            int sum = 0;
            for (int tonnes : lost) {
                sum += tonnes;
            }
            return sum;
        }

        int monthsUntilDeadline() {
            // the fifth month of the year 0 is no deadline
            int inYear = month % YEAR;
            boolean isAhead = inYear < DEADLINE && year() != 0;
            return isAhead ? DEADLINE - inYear : DEADLINE + YEAR - inYear;
        }
    }

    /** The latest states, in rows that go round. */
    private static final class History {
        final State[] rows;
        int size;
        int next;

        History() {
            rows = new State[MOST_STATES];
            for (int i = 0; i < MOST_STATES; i++) {
                rows[i] = new State();
            }
        }

        void push(State state) {
            copyState(state, rows[next]);
            next = (next + 1) % MOST_STATES;
            size = Math.min(size + 1, MOST_STATES);
        }

        void popInto(State state) {
            next = (next + MOST_STATES - 1) % MOST_STATES;
            size--;
            copyState(rows[next], state);
        }
    }

    /** What a surrender would take, worked out before anything changes. */
    private static final class Taking {
        final int[] allowancesTaken;
        final int[] offsetsTaken;
        int allAllowances;
        int vintagesTouched;
        int firstTouched;
        /** What the firm has not by this way. */
        int missing;

        Taking() {
            allowancesTaken = new int[VINTAGES];
            offsetsTaken = new int[GRADES];
        }

        void workOut(Firm owner, int[] limits, int tonnes, int way) {
            missing = tonnes;
            allAllowances = 0;
            vintagesTouched = 0;
            firstTouched = NONE;
            for (int grade = GRADES - 1; grade >= 0; grade--) {
                int most = way == OFFSETS_FIRST ? owner.canUse(grade, limits[grade]) : 0;
                offsetsTaken[grade] = Math.min(missing, most);
                missing -= offsetsTaken[grade];
            }
            for (int i = 0; i < VINTAGES; i++) {
                takeVintage(owner, way == NEWEST_FIRST ? VINTAGES - 1 - i : i);
            }
        }

        void takeVintage(Firm owner, int vintage) {
            int tonnes = Math.min(missing, owner.held[vintage]);
            allowancesTaken[vintage] = tonnes;
            if (tonnes == 0) {
                return;
            }
            if (vintagesTouched == 0) {
                firstTouched = vintage;
            }
            vintagesTouched++;
            allAllowances += tonnes;
            missing -= tonnes;
        }
    }

    /** The text, and the transfers that are read from it. */
    private static final class Text {
        final char[] characters;
        int length;
        final int[] froms;
        final int[] tos;
        final int[] vintages;
        final int[] tonnes;
        int transfers;
        /** Where the reading stands; it never goes past a character that is not allowed. */
        int at;

        Text() {
            characters = new char[TEXT_SIZE];
            froms = new int[MOST_TRANSFERS];
            tos = new int[MOST_TRANSFERS];
            vintages = new int[MOST_TRANSFERS];
            tonnes = new int[MOST_TRANSFERS];
        }

        /** Reads all transfers; if the text has a fault, returns false and stands there. */
        boolean readAll() {
            at = 0;
            transfers = 0;
            for (int i = 0; i < MOST_TRANSFERS; i++) {
                if (!readOne(i)) {
                    return false;
                }
                transfers = i + 1;
                if (at == length) {
                    return true;
                }
                if (!readSign(';')) {
                    return false;
                }
            }
            return false;
        }

        boolean readOne(int i) {
            froms[i] = readNumber(1, true);
            if (froms[i] < 0 || !readSign('>')) {
                return false;
            }
            tos[i] = readNumber(1, true);
            if (tos[i] < 0 || !readSign(':')) {
                return false;
            }
            vintages[i] = readNumber(MOST_VINTAGE_DIGITS, true);
            if (vintages[i] < 0 || !readSign('*')) {
                return false;
            }
            tonnes[i] = readNumber(MOST_TONNES_DIGITS, false);
            return tonnes[i] >= 0;
        }

        boolean readSign(char sign) {
            if (at >= length || at >= TEXT_SIZE || characters[at] != sign) {
                return false;
            }
            at++;
            return true;
        }

        /** Reads a number without a zero in front, but for the single 0 where that may be; NONE if there is none. */
        int readNumber(int mostDigits, boolean mayBeZero) {
            int first = digitHere();
            if (first < 0 || first == 0 && !mayBeZero) {
                return NONE;
            }
            at++;
            int number = first;
            for (int digits = 1; digits < mostDigits && number > 0 && digitHere() >= 0; digits++) {
                number = number * 10 + digitHere();
                at++;
            }
            return number;
        }

        int digitHere() {
            if (at >= length || at >= TEXT_SIZE || characters[at] < '0' || characters[at] > '9') {
                return NONE;
            }
            return characters[at] - '0';
        }
    }
}
