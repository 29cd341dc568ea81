import java.util.ArrayDeque;
import java.util.ArrayList;
import java.util.Deque;
import java.util.List;
import java.util.TreeMap;
import java.util.regex.Matcher;
import java.util.regex.Pattern;

/**
 * The document once more, told in other words than the program: every number of the state stands in a map under a
 * name, a surrender takes tonne by tonne, and the fault of a text is found by a pattern. Slow, and for tests alone.
 */
final class NaiveBook {
    private static final Pattern TRANSFER =
        Pattern.compile("([0-9])>([0-9]):(0|[1-9][0-9]?)\\*([1-9][0-9]{0,3})");
    private static final Pattern TRANSFERS =
        Pattern.compile("(?:" + TRANSFER.pattern() + ";)*" + TRANSFER.pattern());
    private static final int[] LEAST = {0, 0, 0, 1, 0};
    private static final int[] MOST = {100, 100, 100, 5, 99};

    private TreeMap<String, Integer> now = new TreeMap<>();
    private TreeMap<String, Integer> kept = null;
    private final Deque<TreeMap<String, Integer>> past = new ArrayDeque<>();
    private String text = "";

    NaiveBook() {
        int[] first = {20, 10, 5, 3, 50};
        for (int i = 0; i < 5; i++) {
            put("set" + i, first[i]);
        }
    }

    private int get(String name) {
        return now.getOrDefault(name, 0);
    }

    private int put(String name, int value) {
        now.put(name, value);
        return value;
    }

    private int add(String name, int value) {
        return put(name, get(name) + value);
    }

    private static String held(int firm, int vintage) {
        return "held " + firm + " " + vintage;
    }

    private static String offset(int firm, int grade) {
        return "offset " + firm + " " + grade;
    }

    private static String used(int firm, int grade) {
        return "used " + firm + " " + grade;
    }

    private void act() {
        past.addLast(new TreeMap<>(now));
        if (past.size() > 4) {
            past.removeFirst();
        }
    }

    private boolean isFirm(int firm) {
        return 0 <= firm && firm < get("firms");
    }

    private static boolean in(int value, int least, int most) {
        return least <= value && value <= most;
    }

    int addFirm() {
        if (get("firms") == 8) {
            return -3;
        }
        act();
        return add("firms", 1) - 1;
    }

    int set(int what, int value) {
        if (!in(what, 0, 4) || !in(value, LEAST[what], MOST[what])) {
            return -2;
        }
        int old = get("set" + what);
        if (old == value) {
            return -5;
        }
        act();
        put("set" + what, value);
        return old;
    }

    int issue(int firm, int tonnes) {
        if (!isFirm(firm)) {
            return -1;
        }
        if (!in(tonnes, 1, 9999)) {
            return -2;
        }
        act();
        add("issued " + get("month") / 12, tonnes);
        return add(held(firm, get("month") / 12), tonnes);
    }

    int issueOffsets(int firm, int grade, int tonnes) {
        if (!isFirm(firm) || !in(grade, 0, 2)) {
            return -1;
        }
        if (!in(tonnes, 1, 9999)) {
            return -2;
        }
        act();
        add("offsets issued " + grade, tonnes);
        return add(offset(firm, grade), tonnes);
    }

    private int moved(int from, int to, String given, String taken, boolean isKind, int tonnes) {
        if (!isFirm(from) || !isFirm(to) || !isKind) {
            return -1;
        }
        if (!in(tonnes, 1, 9999) || from == to) {
            return -2;
        }
        if (get(given) < tonnes) {
            return -4;
        }
        act();
        add(taken, tonnes);
        return add(given, -tonnes);
    }

    int transfer(int from, int to, int vintage, int tonnes) {
        return moved(from, to, held(from, vintage), held(to, vintage), in(vintage, 0, 19), tonnes);
    }

    int transferOffsets(int from, int to, int grade, int tonnes) {
        return moved(from, to, offset(from, grade), offset(to, grade), in(grade, 0, 2), tonnes);
    }

    int cancel(int firm, int vintage, int tonnes) {
        if (!isFirm(firm) || !in(vintage, 0, 19)) {
            return -1;
        }
        if (!in(tonnes, 1, 9999)) {
            return -2;
        }
        if (get(held(firm, vintage)) < tonnes) {
            return -4;
        }
        act();
        add("cancelled " + vintage, tonnes);
        return add(held(firm, vintage), -tonnes);
    }

    int report(int firm, int tonnes) {
        if (!isFirm(firm)) {
            return -1;
        }
        if (!in(tonnes, 1, 9999)) {
            return -2;
        }
        if (get("reported " + firm) + get("verified " + firm) + tonnes > 9999) {
            return -3;
        }
        act();
        return add("reported " + firm, tonnes);
    }

    int verify(int firm) {
        if (!isFirm(firm)) {
            return -1;
        }
        if (get("reported " + firm) == 0) {
            return -5;
        }
        act();
        int all = add("verified " + firm, get("reported " + firm));
        put("reported " + firm, 0);
        return all;
    }

    private int mayUse(int firm, int grade) {
        return Math.max(0, get("base " + firm) * get("set" + grade) / 100 - get(used(firm, grade)));
    }

    /** What is taken, a name for each tonne in the order of the taking; shorter than tonnes if there are not so many. */
    private List<String> taken(int firm, int tonnes, int way) {
        List<String> all = new ArrayList<>();
        for (int grade = 2; grade >= 0 && way == 2; grade--) {
            for (int i = 0; i < Math.min(get(offset(firm, grade)), mayUse(firm, grade)); i++) {
                all.add("g" + grade);
            }
        }
        for (int i = 0; i < 20; i++) {
            int vintage = way == 1 ? 19 - i : i;
            for (int j = 0; j < get(held(firm, vintage)) && all.size() < tonnes; j++) {
                all.add("v" + vintage);
            }
        }
        return all.subList(0, Math.min(tonnes, all.size()));
    }

    int surrender(int firm, int tonnes, int way) {
        if (!isFirm(firm)) {
            return -1;
        }
        if (!in(tonnes, 1, 9999) || !in(way, 0, 2)) {
            return -2;
        }
        List<String> all = taken(firm, tonnes, way);
        if (get("due " + firm) < tonnes || all.size() < tonnes) {
            return -4;
        }
        act();
        for (String name : all) {
            int number = Integer.parseInt(name.substring(1));
            if (name.charAt(0) == 'g') {
                add(offset(firm, number), -1);
                add(used(firm, number), 1);
                add("offsets surrendered " + number, 1);
            } else {
                add(held(firm, number), -1);
                add("surrendered " + number, 1);
            }
        }
        add("firm surrendered " + firm, tonnes);
        return add("due " + firm, -tonnes);
    }

    int pass(int months) {
        if (!in(months, 1, 24)) {
            return -2;
        }
        if (get("month") + months > 239) {
            return -4;
        }
        act();
        int coins = 0;
        for (int i = 0; i < months; i++) {
            int month = add("month", 1);
            if (month % 12 == 0) {
                newYear(month / 12);
            }
            for (int firm = 0; firm < 8 && month % 12 == 4 && month > 12; firm++) {
                int fine = get("due " + firm) * get("set4");
                add("fines " + firm, fine);
                coins += fine;
            }
        }
        return coins;
    }

    private void newYear(int year) {
        for (int firm = 0; firm < 8; firm++) {
            int late = get("reported " + firm);
            int more = late % 10 == 0 ? late / 10 : late / 10 + 1;
            put("base " + firm, get("verified " + firm) + late + more);
            add("due " + firm, get("base " + firm));
            put("reported " + firm, 0);
            put("verified " + firm, 0);
            for (int grade = 0; grade < 3; grade++) {
                put(used(firm, grade), 0);
            }
            for (int vintage = 0; vintage < 20 && vintage + get("set3") < year; vintage++) {
                add("lost " + vintage, get(held(firm, vintage)));
                put(held(firm, vintage), 0);
            }
        }
    }

    int type(char character) {
        if (text.length() == 60) {
            return -3;
        }
        text += character;
        return text.length();
    }

    int clearText() {
        int length = text.length();
        text = "";
        return length;
    }

    int readTransfers() {
        if (!TRANSFERS.matcher(text).matches()) {
            int fault = 0;
            while (fault < text.length() && canGoOn(text.substring(0, fault + 1))) {
                fault++;
            }
            return -100 - fault;
        }
        TreeMap<String, Integer> before = new TreeMap<>(now);
        List<TreeMap<String, Integer>> pastBefore = new ArrayList<>(past);
        int number = 0;
        int answer = 0;
        Matcher matcher = TRANSFER.matcher(text);
        while (answer >= 0 && matcher.find()) {
            answer = transfer(Integer.parseInt(matcher.group(1)), Integer.parseInt(matcher.group(2)),
                Integer.parseInt(matcher.group(3)), Integer.parseInt(matcher.group(4)));
            number++;
        }
        TreeMap<String, Integer> after = now;
        now = before;
        past.clear();
        past.addAll(pastBefore);
        if (answer < 0) {
            return answer;
        }
        act();
        now = after;
        return number;
    }

    private static boolean canGoOn(String start) {
        Matcher matcher = TRANSFERS.matcher(start);
        return matcher.matches() || matcher.hitEnd();
    }

    int undo() {
        if (past.isEmpty()) {
            return -5;
        }
        now = past.removeLast();
        return past.size();
    }

    int keep() {
        kept = new TreeMap<>(now);
        return get("month");
    }

    int restore() {
        if (kept == null) {
            return -5;
        }
        act();
        now = new TreeMap<>(kept);
        return get("month");
    }

    private List<Integer> vintagesOf(int firm) {
        List<Integer> all = new ArrayList<>();
        for (int vintage = 0; vintage < 20; vintage++) {
            if (get(held(firm, vintage)) > 0) {
                all.add(vintage);
            }
        }
        return all;
    }

    private int sum(String start) {
        int sum = 0;
        for (String name : now.keySet()) {
            sum += name.startsWith(start) ? get(name) : 0;
        }
        return sum;
    }

    int firm(int firm, int what) {
        if (!isFirm(firm)) {
            return -1;
        }
        List<Integer> vintages = vintagesOf(firm);
        switch (what) {
            case 0: return sum("held " + firm + " ");
            case 1: return vintages.size();
            case 2: return vintages.isEmpty() ? -5 : vintages.get(0);
            case 3: return vintages.isEmpty() ? -5 : vintages.get(vintages.size() - 1);
            case 4: return get("reported " + firm);
            case 5: return get("verified " + firm);
            case 6: return get("base " + firm);
            case 7: return get("due " + firm);
            case 8: return get("firm surrendered " + firm);
            case 9: return get("fines " + firm);
            case 10: return get("due " + firm) - taken(firm, get("due " + firm), 2).size();
            default: return -2;
        }
    }

    int holds(int firm, int vintage) {
        return isFirm(firm) && in(vintage, 0, 19) ? get(held(firm, vintage)) : -1;
    }

    int offsets(int firm, int grade, int what) {
        if (!isFirm(firm) || !in(grade, 0, 2)) {
            return -1;
        }
        if (!in(what, 0, 2)) {
            return -2;
        }
        return what == 1 ? mayUse(firm, grade) : get(what == 0 ? offset(firm, grade) : used(firm, grade));
    }

    private List<Integer> holders(int vintage) {
        List<Integer> all = new ArrayList<>();
        for (int firm = 0; firm < 8; firm++) {
            if (get(held(firm, vintage)) > 0) {
                all.add(firm);
            }
        }
        all.sort((a, b) -> get(held(b, vintage)) - get(held(a, vintage)));
        return all;
    }

    int vintage(int vintage, int what) {
        if (!in(vintage, 0, 19)) {
            return -1;
        }
        int all = 0;
        for (int firm = 0; firm < 8; firm++) {
            all += get(held(firm, vintage));
        }
        switch (what) {
            case 0: return get("issued " + vintage);
            case 1: return all;
            case 2: return get("surrendered " + vintage);
            case 3: return get("cancelled " + vintage);
            case 4: return get("lost " + vintage);
            case 5: return holders(vintage).size();
            case 6: return all == 0 ? -5 : untilLost(vintage);
            default: return -2;
        }
    }

    private int untilLost(int vintage) {
        for (int month = get("month") + 1; ; month++) {
            if (month % 12 == 0 && month / 12 > vintage + get("set3")) {
                return month - get("month");
            }
        }
    }

    int grade(int grade, int what) {
        if (!in(grade, 0, 2)) {
            return -1;
        }
        int all = 0;
        for (int firm = 0; firm < 8; firm++) {
            all += get(offset(firm, grade));
        }
        return what == 0 ? get("offsets issued " + grade) : what == 1 ? all
            : what == 2 ? get("offsets surrendered " + grade) : -2;
    }

    int holder(int vintage, int place) {
        if (!in(vintage, 0, 19)) {
            return -1;
        }
        if (place < 0) {
            return -2;
        }
        List<Integer> all = holders(vintage);
        return place < all.size() ? all.get(place) : -5;
    }

    int plan(int firm, int tonnes, int way, int what) {
        if (!isFirm(firm)) {
            return -1;
        }
        if (!in(tonnes, 1, 9999) || !in(way, 0, 2) || !in(what, 0, 5)) {
            return -2;
        }
        List<String> all = taken(firm, tonnes, way);
        if (all.size() < tonnes) {
            return -4;
        }
        List<String> vintages = all.stream().filter(name -> name.charAt(0) == 'v').toList();
        switch (what) {
            case 0: return vintages.size();
            case 4: return (int) vintages.stream().distinct().count();
            case 5: return vintages.isEmpty() ? -5 : Integer.parseInt(vintages.get(0).substring(1));
            default: return (int) all.stream().filter(name -> name.equals("g" + (what - 1))).count();
        }
    }

    int count(int what) {
        switch (what) {
            case 0: return get("month");
            case 1: return get("month") / 12;
            case 2: return get("firms");
            case 3: case 4: case 5: case 6: case 7: return get("set" + (what - 3));
            case 8: return sum("due ");
            case 9: return sum("fines ");
            case 10: return sum("held ");
            case 11: return sum("lost ");
            case 12: return untilDeadline();
            case 13: return past.size();
            case 14: return text.length();
            default: return -2;
        }
    }

    private int untilDeadline() {
        for (int month = get("month") + 1; ; month++) {
            if (month % 12 == 4 && month / 12 != 0) {
                return month - get("month");
            }
        }
    }
}
