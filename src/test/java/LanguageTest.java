import java.io.IOException;
import java.lang.reflect.Method;
import java.lang.reflect.Modifier;
import java.nio.file.Files;
import java.nio.file.Path;
import java.util.HashSet;
import java.util.List;
import java.util.Set;
import java.util.regex.Matcher;
import java.util.regex.Pattern;

/** Those rules of ../shared/LANGUAGE.md that can be seen from the text of the class or from its face. */
public final class LanguageTest {
    private static final String[] WORDS = {"throw", "throws", "try", "catch", "finally", "synchronized", "assert", "import",
        "volatile", "native", "System.out", "equals", "hashCode", "toString", "Random", "Thread", "->", "::",
        "Object", "float", "double"};
    private static final Set<String> FACE = Set.of("letter", "blank", "fault", "line", "say", "echo", "call", "hang",
        "go", "end", "band", "learnt", "got", "heard", "about", "count", "digest");

    private final Checks c = new Checks();
    private final String source;

    private LanguageTest(String source) {
        this.source = source;
    }

    public static void main(String[] args) throws IOException {
        LanguageTest t = new LanguageTest(Files.readString(Path.of("src/main/java/TwoModems.java")));
        t.noWrongWords();
        t.nothingIsMadeByCalls();
        t.shortMethods();
        t.face();
        t.c.finish();
    }

    private String withoutComments() {
        return source.replaceAll("(?s)/\\*.*?\\*/", "").replaceAll("//[^\n]*", "");
    }

    private void noWrongWords() {
        String code = withoutComments();
        for (String word : WORDS) {
            String edge = Character.isLetter(word.charAt(0)) ? "\\b" : "";
            c.due("\"" + word + "\" is there", Pattern.compile(edge + Pattern.quote(word) + edge).matcher(code).find()
                ? 1 : 0, 0);
        }
        c.due("signs above 127", source.chars().filter(sign -> sign > 126).count(), 0);
    }

    /** All calls of a run share one room, so rows are made in constructors alone. */
    private void nothingIsMadeByCalls() {
        Matcher matcher = Pattern.compile("(?m)^(.*)\\bnew\\b").matcher(withoutComments());
        while (matcher.find()) {
            String ahead = matcher.group(1);
            boolean field = ahead.matches(" {8}(private )?final .*=\\s*");
            boolean constructor = ahead.matches(" {8}(Line common|page|zero|one) = ");
            c.due("made by a call: " + ahead, field || constructor ? 1 : 0, 1);
        }
    }

    private void shortMethods() {
        List<String> lines = source.lines().toList();
        int start = -1;
        for (int k = 0; k < lines.size(); k++) {
            String text = lines.get(k);
            if (text.matches(" {4,8}[A-Za-z].*\\) \\{")) {
                start = k;
            } else if (text.matches(" {4,8}\\}") && start >= 0) {
                c.due("a method of more than 60 lines at " + start, k - start > 60 ? 1 : 0, 0);
                start = -1;
            }
            c.due("a line of more than 120 signs: " + (k + 1), text.length() > 120 ? 1 : 0, 0);
        }
    }

    private void face() {
        Set<String> found = new HashSet<>();
        for (Method method : TwoModems.class.getDeclaredMethods()) {
            if (Modifier.isPublic(method.getModifiers())) {
                found.add(method.getName());
            } else {
                c.due(method.getName() + " is private", Modifier.isPrivate(method.getModifiers()) ? 1 : 0, 1);
                c.due(method.getName() + " bears a public name", FACE.contains(method.getName()) ? 1 : 0, 0);
            }
        }
        c.due("the face is whole", found.equals(FACE) ? 1 : 0, 1);
        c.due("public fields", TwoModems.class.getFields().length, 5);
        for (Class<?> inside : TwoModems.class.getDeclaredClasses()) {
            int modifiers = inside.getModifiers();
            c.due(inside + " is static", Modifier.isStatic(modifiers) ? 1 : 0, 1);
            c.due(inside + " is not public", Modifier.isPublic(modifiers) ? 1 : 0, 0);
            c.due(inside + " has some twenty fields", inside.getDeclaredFields().length > 30 ? 1 : 0, 0);
            for (Method method : inside.getDeclaredMethods()) {
                c.due(inside + "." + method.getName(), FACE.contains(method.getName()) ? 1 : 0, 0);
            }
        }
        c.due("some twelve classes", TwoModems.class.getDeclaredClasses().length > 11 ? 1 : 0, 0);
    }
}
