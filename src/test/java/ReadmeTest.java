import java.io.ByteArrayOutputStream;
import java.io.IOException;
import java.io.PrintStream;
import java.lang.reflect.Method;
import java.lang.reflect.Modifier;
import java.nio.file.Files;
import java.nio.file.Path;
import java.util.ArrayList;
import java.util.List;
import java.util.Set;
import java.util.TreeSet;

/** What README.md says: its example stands below word for word and prints what it says, its table has every call. */
public final class ReadmeTest {
    public static void main(String[] args) throws IOException {
        List<String> readme = Files.readAllLines(Path.of("README.md"));
        exampleIsTheOneBelow(readme);
        examplePrints(readme);
        tableHasEveryCall(readme);
        testsAreAllNamed(readme);
        Due.end();
    }

    private static void example() {
        ExactShares x = new ExactShares();
        int third = x.value(1, 3);
        int tenth = x.value(1, 10);
        int sum = x.act(0, third, tenth);
        System.out.println(x.part(sum, 0) + "/" + x.part(sum, 1)); // 13/30
        System.out.println(x.cut(sum, 4, false)); // 4333

        x.into(0, 47000);
        x.into(0, 16000);
        System.out.println(x.seats(0, 10, 1)); // 2
        System.out.println(x.given(0)); // 8

        int share = x.share(0, 1);
        int odds = x.tail(3, 2, third);
        System.out.println(x.part(share, 0) + "/" + x.part(share, 1)); // 16/63
        System.out.println(x.part(odds, 0) + "/" + x.part(odds, 1)); // 7/27
    }

    private static List<String> exampleOf(List<String> readme) {
        int from = readme.indexOf("```java") + 1;
        return readme.subList(from, from + readme.subList(from, readme.size()).indexOf("```"));
    }

    private static void exampleIsTheOneBelow(List<String> readme) throws IOException {
        List<String> lines = new ArrayList<>();
        boolean within = false;
        for (String line : Files.readAllLines(Path.of("src/test/java/ReadmeTest.java"))) {
            within = within ? !line.equals("    }") : line.equals("    private static void example() {");
            lines.add(within ? line.strip() : null);
        }
        lines.removeIf(line -> line == null || line.startsWith("private static void example"));
        Due.same("README: the example", String.join("\n", exampleOf(readme)), String.join("\n", lines));
    }

    private static void examplePrints(List<String> readme) {
        PrintStream before = System.out;
        ByteArrayOutputStream printed = new ByteArrayOutputStream();
        System.setOut(new PrintStream(printed, true));
        try {
            example();
        } finally {
            System.setOut(before);
        }
        List<String> due = new ArrayList<>();
        for (String line : exampleOf(readme)) {
            if (line.contains("// ")) {
                due.add(line.substring(line.indexOf("// ") + 3));
            }
        }
        Due.same("README: what the example prints", String.join(" ", printed.toString().split("\\R")),
            String.join(" ", due));
    }

    private static void tableHasEveryCall(List<String> readme) {
        Set<String> calls = new TreeSet<>();
        for (Method method : ExactShares.class.getDeclaredMethods()) {
            if (Modifier.isPublic(method.getModifiers())) {
                calls.add(method.getName());
            }
        }
        Set<String> told = new TreeSet<>();
        for (String line : readme) {
            if (line.startsWith("| `") && line.contains("(")) {
                told.add(line.substring(3, line.indexOf('(')));
            }
        }
        Due.same("README: the table of calls", told.toString(), calls.toString());
    }

    private static void testsAreAllNamed(List<String> readme) throws IOException {
        String all = String.join("\n", readme);
        try (var files = Files.list(Path.of("src/test/java"))) {
            for (Path file : files.sorted().toList()) {
                String name = file.getFileName().toString().replace(".java", "");
                Due.is("README: names " + name, all.contains("`" + name + "`") ? 1 : 0, 1);
            }
        }
    }
}
