import java.io.IOException;
import java.lang.reflect.Constructor;
import java.lang.reflect.Field;
import java.lang.reflect.Method;
import java.lang.reflect.Modifier;
import java.nio.file.Files;
import java.nio.file.Path;
import java.util.HashMap;
import java.util.HashSet;
import java.util.List;
import java.util.Map;
import java.util.Set;
import java.util.regex.Matcher;
import java.util.regex.Pattern;

/** Those rules of ../shared/LANGUAGE.md that can be seen from the text of the class or from its face. */
public final class LanguageTest {
    private static final String[] WORDS = {"throw", "throws", "try", "catch", "finally", "synchronized", "assert",
        "import", "volatile", "native", "System", "equals", "hashCode", "toString", "Random", "Thread", "->", "::",
        "Object", "float", "double", "while", "do", "instanceof", "interface", "abstract", "enum", "record", "package",
        "protected", "var"};
    private static final Set<String> LIBRARY = Set.of("Math.max", "Math.min", "Math.abs", "Integer.bitCount");
    private static final Set<String> FACE = Set.of("letter", "blank", "fault", "line", "say", "echo", "call", "hang",
        "go", "end", "band", "learnt", "got", "heard", "about", "count", "digest");
    private static final Set<String> CONSTANTS = Set.of("NONE", "UNKNOWN", "OUTSIDE", "STATE", "FULL");

    private final Checks c = new Checks();
    private final String source;
    private final String document;

    private LanguageTest(String source, String document) {
        this.source = source;
        this.document = document;
    }

    public static void main(String[] args) throws IOException {
        LanguageTest t = new LanguageTest(Files.readString(Path.of("src/main/java/TwoModems.java")),
            Files.readString(Path.of("../shared/DOC.md")));
        t.noWrongWords();
        t.nothingIsMadeByCalls();
        t.noTextsAndNoStrangeNames();
        t.loopsEndByTheirOwnLines();
        t.shortMethods();
        t.callsGoNotDeepAndNotRound();
        t.face();
        t.classes();
        t.c.finish();
    }

    private String withoutComments() {
        return source.replaceAll("(?s)/\\*.*?\\*/", "").replaceAll("//[^\n]*", "");
    }

    private void noWrongWords() {
        String code = withoutComments();
        for (String word : WORDS) {
            String edge = Character.isLetter(word.charAt(0)) ? "\\b" : "";
            c.due("\"" + word + "\" is there", Pattern.compile(edge + Pattern.quote(word) + edge).matcher(code).find()
                ? 1 : 0, 0);
        }
        c.due("signs above 127", source.chars().filter(sign -> sign > 126).count(), 0);
    }

    /** All calls of a run share one room, so rows are made in constructors alone. */
    private void nothingIsMadeByCalls() {
        Matcher matcher = Pattern.compile("(?m)^(.*)\\bnew\\b").matcher(withoutComments());
        while (matcher.find()) {
            String ahead = matcher.group(1);
            boolean field = ahead.matches(" {8}(private )?final .*=\\s*");
            boolean constructor = ahead.matches(" {8}(Line common|page|zero|one) = ");
            c.due("made by a call: " + ahead, field || constructor ? 1 : 0, 1);
        }
    }

    /** Rules 3, 4 and 10: whatever begins with a great letter is of the class's own, or one of four functions. */
    private void noTextsAndNoStrangeNames() {
        String code = withoutComments();
        c.due("texts", code.indexOf('"'), -1);
        Set<String> own = new HashSet<>(Set.of(TwoModems.class.getSimpleName()));
        for (Class<?> inside : TwoModems.class.getDeclaredClasses()) {
            own.add(inside.getSimpleName());
        }
        Matcher matcher = Pattern.compile("\\b([A-Z]\\w*[a-z]\\w*)(\\.\\w+)?").matcher(code);
        while (matcher.find()) {
            String name = matcher.group();
            c.due(name + " may be used", own.contains(matcher.group(1)) || LIBRARY.contains(name) ? 1 : 0, 1);
        }
    }

    /** Rule 9: each loop counts up to a bound. */
    private void loopsEndByTheirOwnLines() {
        Matcher matcher = Pattern.compile("(?m)^ *for (.*)$").matcher(withoutComments());
        while (matcher.find()) {
            String counts = "\\(int (\\w+) = [^;]+; \\1 < [^;]+; \\1\\+\\+\\) \\{";
            c.due("for " + matcher.group(1), matcher.group(1).matches(counts) ? 1 : 0, 1);
        }
    }

    /** Rules 8 and 11, by the names of methods alone: two of one name are held to be one. */
    private void callsGoNotDeepAndNotRound() {
        Map<String, Set<String>> calls = new HashMap<>();
        Matcher method = Pattern.compile("(?ms)^( {4}| {8})[a-z][\\w ]*?(\\w+)\\([^;{}]*\\) \\{$(.*?)^\\1\\}$")
            .matcher(withoutComments().replaceAll("(?m)^    private static final class .*$", ""));
        while (method.find()) {
            Set<String> called = calls.computeIfAbsent(method.group(2), name -> new HashSet<>());
            Matcher call = Pattern.compile("\\b([a-z]\\w*)\\(").matcher(method.group(3));
            while (call.find()) {
                called.add(call.group(1));
            }
        }
        c.due("all of the face is found", calls.keySet().containsAll(FACE) ? 1 : 0, 1);
        for (String name : calls.keySet()) {
            c.due(name + " goes too deep", depth(name, calls, 0) > 8 ? 1 : 0, 0);
        }
    }

    /** 100 stands for a call that comes back to where it was. */
    private int depth(String name, Map<String, Set<String>> calls, int above) {
        int most = 0;
        for (String called : calls.getOrDefault(name, Set.of())) {
            most = above > 20 ? 100 : Math.max(most, depth(called, calls, above + 1));
        }
        return most + 1;
    }

    private void shortMethods() {
        List<String> lines = source.lines().toList();
        int start = -1;
        for (int k = 0; k < lines.size(); k++) {
            String text = lines.get(k);
            if (text.matches(" {4,8}[A-Za-z].*\\) \\{")) {
                start = k;
            } else if (text.matches(" {4,8}\\}") && start >= 0) {
                c.due("a method of more than 60 lines at " + start, k - start > 60 ? 1 : 0, 0);
                start = -1;
            }
            c.due("a line of more than 120 signs: " + (k + 1), text.length() > 120 ? 1 : 0, 0);
        }
    }

    private void face() {
        Set<String> found = new HashSet<>();
        for (Method method : TwoModems.class.getDeclaredMethods()) {
            if (Modifier.isPublic(method.getModifiers())) {
                found.add(method.getName());
            } else {
                c.due(method.getName() + " is private", Modifier.isPrivate(method.getModifiers()) ? 1 : 0, 1);
                c.due(method.getName() + " bears a public name", FACE.contains(method.getName()) ? 1 : 0, 0);
            }
        }
        c.due("the face is whole", found.equals(FACE) ? 1 : 0, 1);
        c.due("one constructor", TwoModems.class.getDeclaredConstructors().length, 1);
        Matcher told = Pattern.compile("(?m)^ *(public .*?)( \\{|;)$").matcher(document);
        int lines = 0;
        while (told.find()) {
            String end = told.group(1).contains("(") ? " {\n" : told.group(2) + "\n";
            c.due(told.group(1) + " is there", source.contains(told.group(1) + end) ? 1 : 0, 1);
            lines++;
        }
        c.due("lines of the public face", lines, 1 + 1 + 1 + FACE.size());
        c.due("public fields", TwoModems.class.getFields().length, 5);
    }

    /** Rules 1, 2, 5, 11: what is inside the class, its fields, and how many parameters a method has. */
    private void classes() {
        Class<?>[] insides = TwoModems.class.getDeclaredClasses();
        c.due("some twelve classes", insides.length > 11 ? 1 : 0, 0);
        fieldsAndParameters(TwoModems.class);
        for (Class<?> inside : insides) {
            int modifiers = inside.getModifiers();
            c.due(inside + " is static", Modifier.isStatic(modifiers) ? 1 : 0, 1);
            c.due(inside + " is private", Modifier.isPrivate(modifiers) ? 1 : 0, 1);
            c.due(inside + " has none inside", inside.getDeclaredClasses().length, 0);
            fieldsAndParameters(inside);
            for (Method method : inside.getDeclaredMethods()) {
                c.due(inside + "." + method.getName(), FACE.contains(method.getName()) ? 1 : 0, 0);
            }
        }
        c.due("classes without a name", Pattern.compile("\\bnew \\w+\\([^;]*\\) *\\{").matcher(withoutComments()).find()
            ? 1 : 0, 0);
    }

    private void fieldsAndParameters(Class<?> of) {
        int fields = 0;
        for (Field field : of.getDeclaredFields()) {
            int modifiers = field.getModifiers();
            boolean constant = Modifier.isFinal(modifiers) && field.getType().isPrimitive();
            fields += Modifier.isStatic(modifiers) ? 0 : 1;
            c.due(field + " is static and no constant", Modifier.isStatic(modifiers) && !constant ? 1 : 0, 0);
            if (of == TwoModems.class) {
                c.due(field + " is private, or of the face", Modifier.isPrivate(modifiers)
                    || CONSTANTS.contains(field.getName()) ? 1 : 0, 1);
            }
        }
        c.due(of + " has more than twenty fields", fields > 20 ? 1 : 0, 0);
        for (Method method : of.getDeclaredMethods()) {
            c.due(method + " has more than seven parameters", method.getParameterCount() > 7 ? 1 : 0, 0);
        }
        for (Constructor<?> made : of.getDeclaredConstructors()) {
            c.due(made + " has more than seven parameters", made.getParameterCount() > 7 ? 1 : 0, 0);
        }
    }
}
