import java.io.IOException;
import java.lang.reflect.Method;
import java.lang.reflect.Modifier;
import java.nio.file.Files;
import java.nio.file.Path;
import java.util.ArrayList;
import java.util.List;
import java.util.Set;
import java.util.TreeSet;
import java.util.regex.Matcher;
import java.util.regex.Pattern;

/**
 * Writes the test ReadmeExample out of README.md: the calls of its example as they stand there, each
 * with the answer told behind it, then the refusals of its table of exceptions. A line that is not
 * understood ends it with 1, so that no answer goes untested.
 */
public final class ReadmeWriter {
    private static final String TOWN = "LeftThings town = new LeftThings();";
    private static final Pattern CALL = Pattern.compile("(?:int (\\w+) = )?(town\\.(\\w+)\\([^()]*\\)); *// (.*)");
    private static final Pattern ANSWER = Pattern.compile("(-?\\d+)(:.*)?");
    private static final Pattern REFUSAL = Pattern.compile("throws (\\w+)(:.*)?");
    private static final Pattern ROW = Pattern.compile("\\| (\\w+Exception) \\|[^|]*\\| (.*) \\|");
    private static final Pattern IN_ROW = Pattern.compile("`(town\\.\\w+\\([^()]*\\))`");

    private final List<String> test = new ArrayList<>();
    private final Set<String> called = new TreeSet<>();
    private int refusalsOfTable = 0;
    private int wrong = 0;

    public static void main(String[] args) throws IOException {
        ReadmeWriter writer = new ReadmeWriter();
        writer.read(Files.readAllLines(Path.of(args[0])));
        writer.askForAll();
        if (writer.wrong > 0) {
            System.exit(1);
        }
        writer.print();
    }

    private void read(List<String> lines) {
        boolean inExample = false;
        for (String line : lines) {
            if (line.startsWith("```")) {
                inExample = line.equals("```java");
            } else if (inExample) {
                readExample(line);
            } else {
                readRow(line);
            }
        }
    }

    private void readExample(String line) {
        Matcher call = CALL.matcher(line);
        if (line.equals(TOWN)) {
            test.add(line);
        } else if (call.matches()) {
            called.add(call.group(3));
            addCall(call);
        } else if (!line.isEmpty() && !line.startsWith("//")) {
            tell("a line that is no call with its answer: " + line);
        }
    }

    private void addCall(Matcher call) {
        String words = call.group(2);
        Matcher answer = ANSWER.matcher(call.group(4));
        Matcher refusal = REFUSAL.matcher(call.group(4));
        if (answer.matches() && call.group(1) != null) {
            test.add("int " + call.group(1) + " = " + words + ";");
            addAnswer(words, call.group(1), answer.group(1));
        } else if (answer.matches()) {
            addAnswer(words, words, answer.group(1));
        } else if (refusal.matches()) {
            addRefusal(words, refusal.group(1));
        } else if (answersNothing(call.group(3))) {
            test.add(words + ";");
        } else {
            tell("a call without its answer: " + words);
        }
    }

    private void readRow(String line) {
        Matcher row = ROW.matcher(line);
        if (row.matches()) {
            Matcher call = IN_ROW.matcher(row.group(2));
            while (call.find()) {
                addRefusal(call.group(1), row.group(1));
                refusalsOfTable++;
            }
        }
    }

    private void addAnswer(String words, String got, String due) {
        test.add("Check.same(\"" + words + "\", " + got + ", " + due + ");");
    }

    private void addRefusal(String words, String exception) {
        test.add("Check.refuses(\"" + words + "\", " + exception + ".class, () -> " + words + ");");
    }

    private static boolean answersNothing(String name) {
        for (Method method : LeftThings.class.getDeclaredMethods()) {
            if (method.getName().equals(name)) {
                return method.getReturnType() == void.class;
            }
        }
        return false;
    }

    private void askForAll() {
        for (Method method : LeftThings.class.getDeclaredMethods()) {
            if (Modifier.isPublic(method.getModifiers()) && !called.contains(method.getName())) {
                tell("no call of " + method.getName() + " in the example");
            }
        }
        if (refusalsOfTable == 0) {
            tell("no call in the table of exceptions");
        }
    }

    private void tell(String line) {
        wrong++;
        System.err.println("README.md: " + line);
    }

    private void print() {
        System.out.println("public final class ReadmeExample {");
        System.out.println("    public static void main(String[] args) {");
        System.out.println("        Check.sentence(\"README.md\", \"its example\");");
        for (String line : test) {
            System.out.println("        " + line);
        }
        System.out.println("        Check.finish();");
        System.out.println("    }");
        System.out.println("}");
    }
}
