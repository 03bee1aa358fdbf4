import java.io.ByteArrayOutputStream;
import java.io.File;
import java.io.PrintStream;
import java.lang.reflect.Method;
import java.lang.reflect.Modifier;
import java.net.URL;
import java.net.URLClassLoader;
import java.nio.file.Files;
import java.nio.file.Path;
import java.util.ArrayList;
import java.util.Comparator;
import java.util.List;
import java.util.Set;
import java.util.TreeSet;
import java.util.regex.Matcher;
import java.util.regex.Pattern;
import java.util.spi.ToolProvider;
import java.util.stream.Stream;

/** What README.md says is so: its example, the calls and the tests that it names, the numbers of its refusals. */
public final class ReadmeTest {
    private static final Checks CHECKS = new Checks("ReadmeTest");
    private static final String CLASS = "src/main/java/BishopsPeace.java";

    private static String exampleIn(String readme) {
        Matcher m = Pattern.compile("(?s)\n```java\n(.*?)\n```\n").matcher(readme);
        CHECKS.holds("README.md has an example", m.find());
        String example = m.group(1);
        CHECKS.holds("README.md has one example alone", !m.find());
        return example;
    }

    /** Each println with the number behind its //, in their order. */
    private static List<String[]> toldIn(String example) {
        List<String[]> told = new ArrayList<>();
        Matcher m = Pattern.compile("System\\.out\\.println\\((.*)\\); *// (-?\\d+): ").matcher(example);
        while (m.find()) {
            told.add(new String[] {m.group(1), m.group(2)});
        }
        int printed = example.split("println", -1).length - 1;
        CHECKS.due("println with a number told", told.size(), printed);
        return told;
    }

    private static void compile(Path dir, String example) throws Exception {
        Path source = dir.resolve("Example.java");
        Files.writeString(source, example);
        ToolProvider javac = ToolProvider.findFirst("javac").orElseThrow();
        int code = javac.run(System.out, System.err, "--release", "17", "-Xlint:all", "-Werror", "-d",
            dir.resolve("out").toString(), CLASS, source.toString());
        CHECKS.due("javac of the example", code, 0);
    }

    private static String[] printedBy(Path dir) throws Exception {
        PrintStream before = System.out;
        ByteArrayOutputStream bytes = new ByteArrayOutputStream();
        URL[] where = {dir.resolve("out").toUri().toURL()};
        // The platform's loader as parent: the example finds the class beside it, not this test's own.
        try (URLClassLoader loader = new URLClassLoader(where, ClassLoader.getPlatformClassLoader())) {
            System.setOut(new PrintStream(bytes, true));
            loader.loadClass("Example").getMethod("main", String[].class).invoke(null, (Object) new String[0]);
        } finally {
            System.setOut(before);
        }
        return bytes.toString().strip().split("\\R");
    }

    private static void example(String readme) throws Exception {
        String example = exampleIn(readme);
        List<String[]> told = toldIn(example);
        Path dir = Files.createTempDirectory("readme");
        try {
            compile(dir, example);
            String[] printed = printedBy(dir);
            CHECKS.due("lines printed", printed.length, told.size());
            for (int k = 0; k < told.size() && k < printed.length; k++) {
                CHECKS.due("README.md: " + told.get(k)[0], Long.parseLong(printed[k]), Long.parseLong(told.get(k)[1]));
            }
        } finally {
            try (Stream<Path> all = Files.walk(dir)) {
                all.sorted(Comparator.reverseOrder()).map(Path::toFile).forEach(File::delete);
            }
        }
    }

    private static void everyCallIsNamed(String readme) {
        Set<String> named = new TreeSet<>();
        Matcher rows = Pattern.compile("(?m)^\\| [a-z, ]+ \\|((?: `\\w+`)+) \\|$").matcher(readme);
        while (rows.find()) {
            for (String name : rows.group(1).trim().split(" ")) {
                CHECKS.holds(name + " is named once", named.add(name.replace("`", "")));
            }
        }
        Set<String> calls = new TreeSet<>();
        for (Method m : BishopsPeace.class.getDeclaredMethods()) {
            if (Modifier.isPublic(m.getModifiers())) {
                calls.add(m.getName());
            }
        }
        CHECKS.holds("calls named are " + calls + ", not " + named, calls.equals(named));
    }

    private static void everyTestIsNamed(String readme) throws Exception {
        Set<String> named = new TreeSet<>();
        Matcher rows = Pattern.compile("(?m)^\\| (\\w+Test) \\|").matcher(readme);
        while (rows.find()) {
            CHECKS.holds(rows.group(1) + " is named once", named.add(rows.group(1)));
        }
        Set<String> tests = new TreeSet<>();
        try (Stream<Path> files = Files.list(Path.of("src/test/java"))) {
            files.map(f -> f.getFileName().toString()).filter(f -> f.endsWith("Test.java"))
                .forEach(f -> tests.add(f.substring(0, f.length() - ".java".length())));
        }
        CHECKS.holds("tests named are " + tests + ", not " + named, tests.equals(named));
        for (String test : tests) {
            CHECKS.holds(test + " has a main", Files.readString(Path.of("src/test/java", test + ".java"))
                .contains("public static void main(String[] args)"));
        }
    }

    private static void numbersOfRefusals(String readme) {
        String text = readme.replaceAll("\\s+", " ");
        CHECKS.holds("NONE", text.contains("`NONE` (" + BishopsPeace.NONE + ")"));
        CHECKS.holds("BAD", text.contains("`BAD` (" + BishopsPeace.BAD + ")"));
        CHECKS.holds("NOT", text.contains("`NOT` (" + BishopsPeace.NOT + ")"));
        CHECKS.holds("FULL", text.contains("`FULL` (" + BishopsPeace.FULL + ")"));
        BishopsPeace x = new BishopsPeace();
        int first = x.lose(0);
        int last = x.sheet(0, 0, -1);
        CHECKS.holds("FINDINGS", text.contains("a FINDING (" + first + " to " + last + ";"));
    }

    private static void pathsAreThere(String readme) {
        for (String path : new String[] {"../shared/DOC.md", "../shared/LANGUAGE.md", CLASS, "src/test/java", "../shared/tests"}) {
            CHECKS.holds(path + " is named", readme.contains("`" + path + "`"));
            CHECKS.holds(path + " is there", Files.exists(Path.of(path)));
        }
        CHECKS.holds(".ci/run is named", readme.contains("`bash .ci/run`"));
        CHECKS.holds(".ci/run can be run", Files.isExecutable(Path.of(".ci/run")));
    }

    public static void main(String[] args) throws Exception {
        String readme = Files.readString(Path.of("README.md"));
        example(readme);
        everyCallIsNamed(readme);
        everyTestIsNamed(readme);
        numbersOfRefusals(readme);
        pathsAreThere(readme);
        CHECKS.end();
    }
}
