import java.util.ArrayList;
import java.util.List;
import java.util.function.Supplier;
import java.util.function.ToIntFunction;

/** All that a registry tells, now and after some ways to go on: so that two registries can be told apart. */
final class Told {
    /** An object is good for 512 calls: those that are asked of one leave room for those that made it. */
    private static final int ASKED_OF_ONE = 300;
    private static final List<Question> QUESTIONS = questions();
    private static final List<Question> WAYS_ON = waysOn();

    private record Question(String call, ToIntFunction<AllowanceBook> asked) {
    }

    private Told() {
    }

    private static List<Question> questions() {
        List<Question> all = new ArrayList<>();
        for (int what = 0; what <= 14; what++) {
            int it = what;
            all.add(new Question("count(" + it + ")", book -> book.count(it)));
        }
        for (int firm = 0; firm < 8; firm++) {
            addFirm(all, firm);
        }
        for (int vintage = 0; vintage < 20; vintage++) {
            addVintage(all, vintage);
        }
        for (int grade = 0; grade < 3; grade++) {
            int number = grade;
            for (int what = 0; what <= 2; what++) {
                int it = what;
                all.add(new Question("grade(" + number + ", " + it + ")", book -> book.grade(number, it)));
            }
        }
        return all;
    }

    private static void addFirm(List<Question> all, int firm) {
        for (int what = 0; what <= 10; what++) {
            int it = what;
            all.add(new Question("firm(" + firm + ", " + it + ")", book -> book.firm(firm, it)));
        }
        for (int i = 0; i < 9; i++) {
            int grade = i / 3;
            int it = i % 3;
            String call = "offsets(" + firm + ", " + grade + ", " + it + ")";
            all.add(new Question(call, book -> book.offsets(firm, grade, it)));
        }
        for (int i = 0; i < 18; i++) {
            int way = i / 6;
            int it = i % 6;
            String call = "plan(" + firm + ", 60, " + way + ", " + it + ")";
            all.add(new Question(call, book -> book.plan(firm, 60, way, it)));
        }
    }

    private static void addVintage(List<Question> all, int vintage) {
        for (int i = 0; i < 8; i++) {
            int it = i;
            all.add(new Question("holds(" + it + ", " + vintage + ")", book -> book.holds(it, vintage)));
            all.add(new Question("holder(" + vintage + ", " + it + ")", book -> book.holder(vintage, it)));
        }
        for (int what = 0; what <= 6; what++) {
            int it = what;
            all.add(new Question("vintage(" + vintage + ", " + it + ")", book -> book.vintage(vintage, it)));
        }
    }

    /** What shows the text, the snapshot and the states of the history. */
    private static List<Question> waysOn() {
        List<Question> all = new ArrayList<>();
        all.add(new Question("", book -> 0));
        for (int i = 1; i <= 5; i++) {
            int times = i;
            all.add(new Question("undo() x " + times + ", ", book -> undo(book, times)));
        }
        all.add(new Question("restore(), ", AllowanceBook::restore));
        all.add(new Question("undo() x 5, restore(), ", book -> undo(book, 5) * 1000 + book.restore()));
        all.add(new Question("readTransfers(), ", AllowanceBook::readTransfers));
        all.add(new Question("clearText(), ", AllowanceBook::clearText));
        return all;
    }

    private static int undo(AllowanceBook book, int times) {
        int answers = 0;
        for (int i = 0; i < times; i++) {
            answers = answers * 10 + book.undo();
        }
        return answers;
    }

    private static int[] answers(Supplier<AllowanceBook> maker, Question wayOn) {
        int[] answers = new int[QUESTIONS.size() + 1];
        AllowanceBook book = null;
        for (int i = 0; i < QUESTIONS.size(); i++) {
            if (i % ASKED_OF_ONE == 0) {
                book = maker.get();
                answers[QUESTIONS.size()] = wayOn.asked().applyAsInt(book);
            }
            answers[i] = QUESTIONS.get(i).asked().applyAsInt(book);
        }
        return answers;
    }

    /** How many answers of two registries differ; the first one is printed. */
    static int differences(Supplier<AllowanceBook> one, Supplier<AllowanceBook> other, String name) {
        int differences = 0;
        for (Question wayOn : WAYS_ON) {
            int[] due = answers(one, wayOn);
            int[] told = answers(other, wayOn);
            for (int i = 0; i < due.length; i++) {
                if (told[i] == due[i]) {
                    continue;
                }
                if (differences == 0) {
                    String call = i < QUESTIONS.size() ? QUESTIONS.get(i).call() : "itself";
                    System.out.println(name + ", " + wayOn.call() + call + ": " + told[i] + ", not " + due[i]);
                }
                differences++;
            }
        }
        return differences;
    }
}
