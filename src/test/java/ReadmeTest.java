import java.io.ByteArrayOutputStream;
import java.io.IOException;
import java.io.PrintStream;
import java.net.URL;
import java.net.URLClassLoader;
import java.nio.file.Files;
import java.nio.file.Path;
import java.util.ArrayList;
import java.util.List;
import java.util.Set;
import java.util.TreeSet;
import java.util.regex.Matcher;
import java.util.regex.Pattern;
import java.util.stream.Stream;
import javax.tools.JavaCompiler;
import javax.tools.ToolProvider;

/** README.md: its example compiles and prints what stands below it, and what it names is there. */
public final class ReadmeTest {
    private static final Check check = new Check();

    public static void main(String[] args) throws Exception {
        String page = Files.readString(Path.of("README.md"));
        example(block(page, "java"), block(page, "text"));
        tests(page);
        check.due(".ci/run can be run", Files.isExecutable(Path.of(".ci/run")), true);
        check.end();
    }

    private static String block(String page, String kind) {
        Matcher found = Pattern.compile("(?s)```" + kind + "\n(.*?)```").matcher(page);
        check.due("a block of " + kind, found.find(), true);
        return found.group(1);
    }

    private static void example(String code, String printed) throws Exception {
        JavaCompiler compiler = ToolProvider.getSystemJavaCompiler();
        if (compiler == null) {
            System.out.println("this java brings no compiler: the example was not run");
            return;
        }
        Path room = Files.createTempDirectory("readme");
        try {
            Path file = Files.writeString(room.resolve("Example.java"), code);
            int failed = compiler.run(null, null, null, "-cp", System.getProperty("java.class.path"), "-d", room.toString(), file.toString());
            check.due("the example compiles", failed, 0);
            if (failed == 0) {
                lines(run(room).split("\n"), printed.split("\n"));
            }
        } finally {
            empty(room);
        }
    }

    private static String run(Path room) throws Exception {
        PrintStream screen = System.out;
        ByteArrayOutputStream kept = new ByteArrayOutputStream();
        try (URLClassLoader loader = new URLClassLoader(new URL[] {room.toUri().toURL()})) {
            System.setOut(new PrintStream(kept, true));
            loader.loadClass("Example").getMethod("main", String[].class).invoke(null, (Object) new String[0]);
        } finally {
            System.setOut(screen);
        }
        return kept.toString().replace("\r", "");
    }

    private static void lines(String[] printed, String[] told) {
        check.due("lines of the example", printed.length, told.length);
        for (int i = 0; i < Math.min(printed.length, told.length); i++) {
            check.due("the example prints '" + printed[i] + "', told is '" + told[i] + "'", printed[i].equals(told[i]), true);
        }
    }

    private static void empty(Path room) throws IOException {
        List<Path> left = new ArrayList<>();
        try (Stream<Path> files = Files.list(room)) {
            files.forEach(left::add);
        }
        left.add(room);
        for (Path file : left) {
            Files.delete(file);
        }
    }

    /** The first column of the tables names each test that there is, and nothing that is not there. */
    private static void tests(String page) throws IOException {
        Set<String> told = new TreeSet<>();
        Matcher row = Pattern.compile("(?m)^\\| ((`\\w+`(, )?)+) \\|").matcher(page);
        while (row.find()) {
            for (String name : row.group(1).replace("`", "").split(", ")) {
                told.add(name);
            }
        }
        Set<String> there = new TreeSet<>();
        try (Stream<Path> files = Files.list(Path.of("src/test/java"))) {
            files.forEach(file -> there.add(file.getFileName().toString().replace(".java", "")));
        }
        for (String name : there) {
            if (name.endsWith("Test")) {
                check.due(name + " stands on the page", told.contains(name), true);
            }
        }
        for (Class<?> inside : ThingPost.class.getDeclaredClasses()) {
            check.due(inside.getSimpleName() + " stands on the page", told.contains(inside.getSimpleName()), true);
            there.add(inside.getSimpleName());
        }
        for (String name : told) {
            check.due(name + " is there", there.contains(name), true);
        }
    }
}
