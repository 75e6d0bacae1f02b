import java.io.IOException;
import java.lang.reflect.Method;
import java.lang.reflect.Modifier;
import java.net.URL;
import java.net.URLClassLoader;
import java.nio.file.Files;
import java.nio.file.Path;
import java.util.ArrayList;
import java.util.List;
import java.util.Set;
import java.util.TreeSet;
import java.util.function.ObjLongConsumer;
import java.util.regex.Matcher;
import java.util.regex.Pattern;
import java.util.stream.Stream;
import javax.tools.JavaCompiler;
import javax.tools.ToolProvider;

/**
 * What README.md says is so: each call that it shows has the answer that it gives. Its blocks of Java
 * are compiled as one method, in which a call that bears an answer is handed to the test.
 */
public final class ReadmeTest {
    /** A call alone on its line, and the first word of what is said of it: a number, or a constant's name. */
    private static final Pattern CALL = Pattern.compile("(x\\.(\\w+)\\(.*\\)); +// (-?\\d+|[A-Z]+)\\b.*");
    private static final Pattern ANSWER_ROW = Pattern.compile("\\| `([A-Z]+)` +\\| (-?\\d+) +\\|.*");
    private static final Pattern TEST = Pattern.compile("`(\\w+Test)`");
    private static final String[] CONSTANTS = {"BAD", "FULL", "STATE", "SPENT", "FINDING", "NONE"};

    private final List<String> page;
    private final StringBuilder method = new StringBuilder();
    private final List<String> shown = new ArrayList<>();
    private final List<Long> answers = new ArrayList<>();
    private final Set<String> names = new TreeSet<>();
    private int answered = 0;

    private ReadmeTest(List<String> page) {
        this.page = page;
    }

    public static void main(String[] args) throws Exception {
        ReadmeTest test = new ReadmeTest(Files.readAllLines(Path.of("README.md")));
        test.gatherCalls();
        test.makeCalls();
        test.showsTheFace();
        test.tableOfAnswers();
        test.tableOfTests();
        Due.end();
    }

    // ---- the calls that it shows

    private void gatherCalls() throws ReflectiveOperationException {
        Due.part("README.md: calls without an answer");
        boolean java = false;
        for (int i = 0; i < page.size(); i++) {
            String line = page.get(i).strip();
            if (line.startsWith("```")) java = line.equals("```java");
            else if (java) gatherLine("line " + (i + 1) + ": ", line);
        }
    }

    private void gatherLine(String where, String line) throws ReflectiveOperationException {
        Matcher call = CALL.matcher(line);
        if (call.matches()) {
            method.append("told.accept(\"\", ").append(call.group(1)).append(");\n");
            shown.add(where + call.group(1));
            answers.add(valueOf(call.group(3)));
            names.add(call.group(2));
        } else {
            if (line.startsWith("x.")) Due.tell(where + line);
            method.append(line).append('\n');
        }
    }

    private static long valueOf(String answer) throws ReflectiveOperationException {
        return Character.isLetter(answer.charAt(0))
                ? OtherwiseBook.class.getField(answer).getInt(null)
                : Long.parseLong(answer);
    }

    private void makeCalls() throws Exception {
        Due.part("README.md");
        Path place = Files.createTempDirectory("readme");
        Path source = place.resolve("ReadmeCalls.java");
        Files.writeString(source, "public final class ReadmeCalls {\n"
                + "public static void make(java.util.function.ObjLongConsumer<String> told) {\n" + method + "}\n}\n");
        JavaCompiler javac = ToolProvider.getSystemJavaCompiler();
        String classes = System.getProperty("java.class.path");
        if (javac == null || javac.run(null, System.out, System.out,
                "-cp", classes, "-d", place.toString(), source.toString()) != 0) {
            Due.tell("its blocks of Java do not compile");
            return;
        }
        try (URLClassLoader loader = new URLClassLoader(new URL[] {place.toUri().toURL()})) {
            ObjLongConsumer<String> told = (nothing, got) -> compare(got);
            loader.loadClass("ReadmeCalls").getMethod("make", ObjLongConsumer.class).invoke(null, told);
        }
        Due.same("calls that were made", answered, shown.size());
        for (Path made : List.of(source, place.resolve("ReadmeCalls.class"), place)) Files.delete(made);
    }

    private void compare(long got) {
        Due.same(shown.get(answered), got, answers.get(answered));
        answered++;
    }

    private void showsTheFace() {
        Due.part("README.md: calls that it does not show");
        for (Method m : OtherwiseBook.class.getDeclaredMethods()) {
            if (Modifier.isPublic(m.getModifiers()) && !names.contains(m.getName())) Due.tell(m.getName());
        }
    }

    // ---- its tables

    private void tableOfAnswers() throws ReflectiveOperationException {
        Due.part("README.md: the table of answers");
        List<String> told = new ArrayList<>();
        for (String line : page) {
            Matcher row = ANSWER_ROW.matcher(line);
            if (!row.matches()) continue;
            told.add(row.group(1));
            Due.same(row.group(1), Long.parseLong(row.group(2)), valueOf(row.group(1)));
        }
        if (!told.equals(List.of(CONSTANTS))) Due.tell("it has " + told);
    }

    private void tableOfTests() throws IOException {
        Due.part("README.md: the tests");
        Set<String> told = new TreeSet<>();
        for (String line : page) {
            Matcher test = TEST.matcher(line);
            while (test.find()) told.add(test.group(1));
        }
        Set<String> there = new TreeSet<>();
        try (Stream<Path> files = Files.list(Path.of("src/test/java"))) {
            files.map(file -> file.getFileName().toString())
                    .filter(name -> name.endsWith("Test.java"))
                    .forEach(name -> there.add(name.substring(0, name.length() - ".java".length())));
        }
        if (!told.equals(there)) Due.tell("it tells of " + told + ", there are " + there);
    }
}
