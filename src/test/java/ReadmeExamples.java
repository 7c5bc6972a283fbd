import java.io.IOException;
import java.nio.file.Files;
import java.nio.file.Path;
import java.util.ArrayList;
import java.util.List;
import java.util.regex.Matcher;
import java.util.regex.Pattern;

/**
 * Makes a program of the examples of README.md, in which each answer shown is asked for, and looks that each call
 * of the document's face stands in README.md, with an answer and with each of its refusals in an example.
 */
public final class ReadmeExamples {
    private static final String REFUSAL = "UNKNOWN|OUTSIDE|STATE|FULL";
    private static final Pattern PROMISED = Pattern.compile("(?m)^`((?:int|long) (\\w+)\\(.*?\\))`: (.*)$");
    private static final Pattern SHOWN =
        Pattern.compile("(\\s*)(x\\.(\\w+)\\(.*\\)); +// (-?[0-9]+|" + REFUSAL + ")(:.*)?");

    private final Checks c = new Checks();
    private final String readme;
    private final String document;
    private final List<String> answers = new ArrayList<>();

    private ReadmeExamples(String readme, String document) {
        this.readme = readme;
        this.document = document;
    }

    /** The places of README.md, of the document, and of the program that is made. */
    public static void main(String[] args) throws IOException, ReflectiveOperationException {
        ReadmeExamples t = new ReadmeExamples(Files.readString(Path.of(args[0])), Files.readString(Path.of(args[1])));
        Files.writeString(Path.of(args[2]), t.program());
        t.wholeFace();
        t.refusalsByValue();
        t.c.finish();
    }

    private String program() {
        StringBuilder members = new StringBuilder();
        StringBuilder calls = new StringBuilder();
        List<String> lines = readme.lines().toList();
        for (int k = 0; k < lines.size(); k++) {
            if (lines.get(k).equals("```java")) {
                int start = k + 1;
                boolean member = lines.get(start).startsWith("static ");
                if (!member) {
                    members.append("static void from").append(start).append("() {\n");
                    calls.append("from").append(start).append("();\n");
                }
                for (k = start; !lines.get(k).equals("```"); k++) {
                    members.append(asked(lines.get(k), k + 1)).append('\n');
                }
                members.append(member ? "" : "}\n");
            }
        }
        return "public final class ReadmeRun {\nprivate static final Checks c = new Checks();\n" + members
            + "public static void main(String[] args) {\n" + calls + "c.finish();\n}\n}\n";
    }

    private String asked(String line, int number) {
        Matcher shown = SHOWN.matcher(line);
        if (!shown.matches()) {
            c.due("an answer is shown in line " + number, line.startsWith("x.") ? 0 : 1, 1);
            return line;
        }
        String answer = shown.group(4);
        boolean refusal = answer.matches(REFUSAL);
        answers.add(shown.group(3) + (refusal ? " " + answer : ""));
        return shown.group(1) + "c.due(\"README.md, line " + number + "\", " + shown.group(2) + ", "
            + (refusal ? "TwoModems." + answer : answer + "L") + ");";
    }

    private void wholeFace() {
        Matcher promised = PROMISED.matcher(document);
        int calls = 0;
        while (promised.find()) {
            calls++;
            String name = promised.group(2);
            List<String> refusals = refusalsIn(promised.group(3));
            String told = toldOf(promised.group(1));
            c.due("an answer of " + name + " is shown", answers.contains(name) ? 1 : 0, 1);
            c.due(name + " is told", told.isEmpty() ? 0 : 1, 1);
            String end = told.substring(told.lastIndexOf("Refuses") + 1);
            c.due("what " + name + " refuses is told, in order", refusalsIn(end).equals(refusals) ? 1 : 0, 1);
            c.due(name + " refuses nothing", end.startsWith("efuses nothing.") == refusals.isEmpty() ? 1 : 0, 1);
            for (String refusal : refusals) {
                boolean shown = answers.contains(name + " " + refusal);
                c.due(name + " that answers " + refusal + " is shown", shown ? 1 : 0, 1);
            }
        }
        c.due("calls of the face", calls, 17);
    }

    private void refusalsByValue() throws ReflectiveOperationException {
        for (String refusal : REFUSAL.split("\\|")) {
            String row = "\n| `" + refusal + "` | " + TwoModems.class.getField(refusal).getInt(null) + " | ";
            c.due("a row of the table" + row, readme.contains(row) ? 1 : 0, 1);
        }
    }

    private String toldOf(String face) {
        int start = readme.indexOf("\n- `" + face + "`: ");
        if (start < 0) {
            return "";
        }
        Matcher end = Pattern.compile("\n(\n|- )").matcher(readme);
        return end.find(start + 1) ? readme.substring(start, end.start()) : readme.substring(start);
    }

    private static List<String> refusalsIn(String text) {
        List<String> found = new ArrayList<>();
        Matcher refusal = Pattern.compile("\\b(" + REFUSAL + ")\\b").matcher(text);
        while (refusal.find()) {
            found.add(refusal.group());
        }
        return found;
    }
}
