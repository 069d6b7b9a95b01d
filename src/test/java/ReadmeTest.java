import java.io.ByteArrayOutputStream;
import java.io.IOException;
import java.io.PrintStream;
import java.lang.reflect.Method;
import java.lang.reflect.Modifier;
import java.net.URL;
import java.net.URLClassLoader;
import java.nio.file.Files;
import java.nio.file.Path;
import java.util.ArrayList;
import java.util.List;
import java.util.Set;
import java.util.TreeSet;
import java.util.regex.Matcher;
import java.util.regex.Pattern;
import java.util.stream.Stream;
import javax.tools.JavaCompiler;
import javax.tools.ToolProvider;

/** README.md: its example compiles and prints what stands below it, and what it names is there. */
public final class ReadmeTest {
    private static final Check check = new Check();

    public static void main(String[] args) throws Exception {
        String page = Files.readString(Path.of("README.md"));
        example(block(page, "java"), block(page, "text"));
        calls(page);
        classes(page);
        check.due(".ci/run can be run", Files.isExecutable(Path.of(".ci/run")), true);
        check.end();
    }

    private static String block(String page, String kind) {
        Matcher found = Pattern.compile("(?s)```" + kind + "\n(.*?)```").matcher(page);
        check.due("a block of " + kind, found.find(), true);
        return found.group(1);
    }

    private static void example(String code, String printed) throws Exception {
        JavaCompiler compiler = ToolProvider.getSystemJavaCompiler();
        if (compiler == null) {
            System.out.println("this java brings no compiler: the example was not run");
            return;
        }
        Path room = Files.createTempDirectory("readme");
        try {
            Path file = Files.writeString(room.resolve("Example.java"), code);
            int failed = compiler.run(null, null, null, "-cp", System.getProperty("java.class.path"), "-d", room.toString(), file.toString());
            check.due("the example compiles", failed, 0);
            if (failed == 0) {
                lines(run(room).split("\n"), printed.split("\n"));
            }
        } finally {
            empty(room);
        }
    }

    private static String run(Path room) throws Exception {
        PrintStream screen = System.out;
        ByteArrayOutputStream kept = new ByteArrayOutputStream();
        try (URLClassLoader loader = new URLClassLoader(new URL[] {room.toUri().toURL()})) {
            System.setOut(new PrintStream(kept, true));
            loader.loadClass("Example").getMethod("main", String[].class).invoke(null, (Object) new String[0]);
        } finally {
            System.setOut(screen);
        }
        return kept.toString().replace("\r", "");
    }

    private static void lines(String[] printed, String[] told) {
        check.due("lines of the example", printed.length, told.length);
        for (int i = 0; i < Math.min(printed.length, told.length); i++) {
            check.due("the example prints '" + printed[i] + "', told is '" + told[i] + "'", printed[i].equals(told[i]), true);
        }
    }

    private static void empty(Path room) throws IOException {
        List<Path> left = new ArrayList<>();
        try (Stream<Path> files = Files.list(room)) {
            files.forEach(left::add);
        }
        left.add(room);
        for (Path file : left) {
            Files.delete(file);
        }
    }

    private static Set<String> names(String page, String rows) {
        Set<String> names = new TreeSet<>();
        Matcher row = Pattern.compile(rows).matcher(page);
        while (row.find()) {
            names.addAll(List.of(row.group(1).replace("`", "").split(", ")));
        }
        return names;
    }

    private static void same(Set<String> told, Set<String> there) {
        for (String name : there) {
            check.due(name + " stands on the page", told.contains(name), true);
        }
        for (String name : told) {
            check.due(name + " is there", there.contains(name), true);
        }
    }

    /** The last column of the tables names each call, and nothing that is none. */
    private static void calls(String page) {
        Set<String> there = new TreeSet<>(Set.of("new ThingPost()"));
        for (Method method : ThingPost.class.getDeclaredMethods()) {
            if (Modifier.isPublic(method.getModifiers())) {
                there.add(method.getName());
            }
        }
        same(names(page, "(?m)^\\|.*\\| ((`[^`]+`(, )?)+) \\|$"), there);
    }

    /** The first column of the tables names each class, and nothing that is none. */
    private static void classes(String page) throws IOException {
        Set<String> there = new TreeSet<>();
        for (Class<?> inside : ThingPost.class.getDeclaredClasses()) {
            there.add(inside.getSimpleName());
        }
        try (Stream<Path> files = Files.list(Path.of("src/test/java"))) {
            files.forEach(file -> there.add(file.getFileName().toString().replace(".java", "")));
        }
        same(names(page, "(?m)^\\| ((`\\w+`(, )?)+) \\|"), there);
    }
}
