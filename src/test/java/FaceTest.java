import java.io.IOException;
import java.lang.reflect.Constructor;
import java.lang.reflect.Field;
import java.lang.reflect.Method;
import java.lang.reflect.Modifier;
import java.nio.file.Files;
import java.nio.file.Path;
import java.util.ArrayList;
import java.util.Arrays;
import java.util.List;
import java.util.Set;
import java.util.TreeSet;
import java.util.regex.Matcher;
import java.util.regex.Pattern;

/** The public face of the document, and what LANGUAGE.md rules out and a program can see. */
final class FaceTest {
    private static final Check check = new Check("face");
    private static final String[] METHODS = {"addFirm()", "set(int,int)", "issue(int,int)",
        "issueOffsets(int,int,int)", "transfer(int,int,int,int)", "transferOffsets(int,int,int,int)",
        "cancel(int,int,int)", "report(int,int)", "verify(int)", "surrender(int,int,int)", "pass(int)", "type(char)",
        "clearText()", "readTransfers()", "undo()", "keep()", "restore()", "firm(int,int)", "holds(int,int)",
        "offsets(int,int,int)", "vintage(int,int)", "grade(int,int)", "holder(int,int)", "plan(int,int,int,int)",
        "count(int)"};
    private static final String[] FORBIDDEN_WORDS = {"throw", "throws", "try", "catch", "synchronized", "assert",
        "->", "::", "@", "double", "float", "System.out", "Object", "protected", "Exact"};

    private static final Pattern HEAD = Pattern.compile("Ahead of the calls? (.*) the interface says: (----.*)\\.\n");

    public static void main(String[] args) throws IOException {
        constants();
        methods();
        innerMethods();
        sizes();
        source();
        heads();
        check.end();
    }

    private static void constants() {
        check.is("UNKNOWN", AllowanceBook.UNKNOWN, -1);
        check.is("BAD_VALUE", AllowanceBook.BAD_VALUE, -2);
        check.is("FULL", AllowanceBook.FULL, -3);
        check.is("NOT_POSSIBLE", AllowanceBook.NOT_POSSIBLE, -4);
        check.is("NONE", AllowanceBook.NONE, -5);
        Set<String> seen = new TreeSet<>();
        for (Field field : AllowanceBook.class.getDeclaredFields()) {
            if (Modifier.isPrivate(field.getModifiers())) {
                continue;
            }
            seen.add(field.getName());
            check.is(field.getName() + " is a constant", field.getModifiers(),
                Modifier.PUBLIC | Modifier.STATIC | Modifier.FINAL);
        }
        same("constants", seen, "UNKNOWN", "BAD_VALUE", "FULL", "NOT_POSSIBLE", "NONE");
    }

    private static void methods() {
        check.is("the class", AllowanceBook.class.getModifiers(), Modifier.PUBLIC | Modifier.FINAL);
        Set<String> seen = new TreeSet<>();
        for (Method method : AllowanceBook.class.getDeclaredMethods()) {
            if (Modifier.isPrivate(method.getModifiers())) {
                continue;
            }
            String types = Arrays.toString(method.getParameterTypes()).replaceAll("[\\[\\] ]", "");
            seen.add(method.getName() + "(" + types + ")");
            check.is(method.getName() + " is public", method.getModifiers(), Modifier.PUBLIC);
            check.is(method.getName() + " answers int", method.getReturnType() == int.class ? 1 : 0, 1);
        }
        same("methods", seen, METHODS);
        Constructor<?>[] constructors = AllowanceBook.class.getDeclaredConstructors();
        check.is("constructors", constructors.length, 1);
        check.is("its parameters", constructors[0].getParameterCount(), 0);
        check.is("it is public", constructors[0].getModifiers(), Modifier.PUBLIC);
    }

    private static void innerMethods() {
        Set<String> names = new TreeSet<>();
        for (String method : METHODS) {
            names.add(method.substring(0, method.indexOf('(')));
        }
        for (Class<?> inner : AllowanceBook.class.getDeclaredClasses()) {
            check.is(inner + " is static", Modifier.isStatic(inner.getModifiers()) ? 1 : 0, 1);
            check.is(inner + " is public", Modifier.isPublic(inner.getModifiers()) ? 1 : 0, 0);
            for (Method method : inner.getDeclaredMethods()) {
                check.is(method + " bears a public name", names.contains(method.getName()) ? 1 : 0, 0);
            }
        }
        for (Method method : AllowanceBook.class.getDeclaredMethods()) {
            boolean isHidden = Modifier.isPrivate(method.getModifiers()) && names.contains(method.getName());
            check.is(method + " bears a public name", isHidden ? 1 : 0, 0);
        }
    }

    /** What rule 11 bounds, and rule 5 on static fields. */
    private static void sizes() {
        List<Class<?>> all = new ArrayList<>(Arrays.asList(AllowanceBook.class.getDeclaredClasses()));
        all.add(AllowanceBook.class);
        check.is("whether the file has at most twelve classes", all.size() <= 12 ? 1 : 0, 1);
        for (Class<?> each : all) {
            int fields = 0;
            for (Field field : each.getDeclaredFields()) {
                boolean isStatic = Modifier.isStatic(field.getModifiers());
                check.is(field + " is static and not final", isStatic && !isFinal(field) ? 1 : 0, 0);
                fields += isStatic ? 0 : 1;
            }
            check.is(each + " has at most twenty fields", fields <= 20 ? 1 : 0, 1);
            for (Method method : each.getDeclaredMethods()) {
                check.is(method + " has at most seven parameters", method.getParameterCount() <= 7 ? 1 : 0, 1);
            }
        }
    }

    private static boolean isFinal(Field field) {
        return Modifier.isFinal(field.getModifiers());
    }

    /** What the interface says ahead of the calls. */
    private static void heads() throws IOException {
        String source = Files.readString(Path.of("src/main/java/AllowanceBook.java"));
        Matcher matcher = HEAD.matcher(Files.readString(Path.of("../shared/DOC.md")));
        int at = source.indexOf("public AllowanceBook()");
        int heads = 0;
        while (matcher.find()) {
            heads++;
            at = after(source, "    // " + matcher.group(2) + "\n", at);
            for (String call : matcher.group(1).replaceAll("[`,]", "").split(" ")) {
                at = after(source, "    public int " + call + "(", at);
            }
        }
        check.is("heads", heads, 6);
    }

    /** Where the words stand behind a place; it is an error if they don't. */
    private static int after(String source, String words, int place) {
        int at = source.indexOf(words, place);
        check.is("whether this stands in its place: " + words.strip(), at >= 0 ? 1 : 0, 1);
        return Math.max(at, place);
    }

    private static void source() throws IOException {
        String text = Files.readString(Path.of("src/main/java/AllowanceBook.java"));
        check.is("imports and packages", count(text, "(?m)^(import|package) "), 0);
        check.is("the longest line", text.lines().mapToInt(String::length).max().orElse(0) <= 120 ? 0 : 1, 0);
        String code = text.replaceAll("(?s)/\\*.*?\\*/", "").replaceAll("//.*", "");
        for (String word : FORBIDDEN_WORDS) {
            boolean isName = Character.isLetter(word.charAt(0));
            check.is(word, count(code, isName ? "\\b" + word + "\\b" : Pattern.quote(word)), 0);
        }
        check.is("what is made outside constructors", madeOutsideConstructors(code), 0);
    }

    /** Rows are made in constructors alone, which keeps a run's room small. */
    private static int madeOutsideConstructors(String code) {
        String constructor = "(?s)\\n( *)(?:public )?(?:AllowanceBook|State|Firm|History|Taking|Text)\\(\\) \\{.*?\\n\\1\\}";
        String rest = code.replaceAll(constructor, "");
        return count(rest, "\\bnew\\b") + count(rest, "\\bclone\\(");
    }

    private static int count(String text, String pattern) {
        Matcher matcher = Pattern.compile(pattern).matcher(text);
        int number = 0;
        while (matcher.find()) {
            number++;
        }
        return number;
    }

    private static void same(String what, Set<String> seen, String... due) {
        Set<String> all = new TreeSet<>(Arrays.asList(due));
        if (!seen.equals(all)) {
            System.out.println(what + " are " + seen + ", due are " + all);
        }
        check.is(what, seen.equals(all) ? 1 : 0, 1);
    }
}
