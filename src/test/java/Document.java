import java.io.IOException;
import java.nio.file.Files;
import java.nio.file.Path;
import java.util.ArrayList;
import java.util.Arrays;
import java.util.LinkedHashMap;
import java.util.List;
import java.util.Map;

/** ../shared/DOC.md in its heads, and which of its words the tests have quoted. */
final class Document {
    private static final Path FILE = Path.of("../shared/DOC.md");
    private final Map<String, String> texts = new LinkedHashMap<>();
    private final Map<String, boolean[]> quoted = new LinkedHashMap<>();

    Document() {
        for (String part : read().split("(?m)^## ")) {
            int line = part.indexOf('\n');
            String head = line < 0 ? part : part.substring(0, line);
            String text = line < 0 ? "" : part.substring(line);
            if (head.equals("Terms")) {
                putTerms(text);
            } else {
                put(head.replaceAll(":.*", ""), text);
            }
        }
    }

    private static String read() {
        try {
            return Files.readString(FILE);
        } catch (IOException e) {
            System.out.println("the document is not at " + FILE + ": quotes are not looked up");
            return "";
        }
    }

    private void putTerms(String text) {
        String head = "Terms I";
        for (String part : text.split("==== ")) {
            int dot = part.indexOf('.');
            boolean named = part.matches("(?s)[IV]+\\..*");
            put(named ? "Terms " + part.substring(0, dot) : head, part);
        }
    }

    private void put(String head, String text) {
        String plain = plain(text.replaceAll("(?m)^```.*$", " "));
        texts.put(head, plain);
        quoted.put(head, new boolean[plain.length()]);
    }

    private static String plain(String text) {
        return text.replaceAll("\\s+", " ").trim();
    }

    /** Whether a sentence stands under a head (true, too, where there is no document to look into). */
    boolean has(String head, String sentence) {
        if (texts.size() < 2) {
            return true;
        }
        String text = texts.getOrDefault(head, "");
        String part = plain(sentence);
        int at = text.indexOf(part);
        if (at < 0) {
            return false;
        }
        Arrays.fill(quoted.get(head), at, at + part.length(), true);
        return true;
    }

    /** The heads of promises and terms of which no sentence was quoted. */
    List<String> unquotedHeads() {
        List<String> heads = new ArrayList<>();
        for (String head : texts.keySet()) {
            boolean some = false;
            for (boolean is : quoted.get(head)) {
                some |= is;
            }
            if (!some && head.matches("(Terms|Promise) .*")) {
                heads.add(head);
            }
        }
        return heads;
    }

    /** What was not quoted, for a reader who looks for sentences without a test. */
    void tellUnquoted() {
        for (String head : texts.keySet()) {
            StringBuilder rest = new StringBuilder();
            boolean[] marks = quoted.get(head);
            for (int i = 0; i < marks.length; i++) {
                if (!marks[i]) {
                    rest.append(texts.get(head).charAt(i));
                } else if (i > 0 && !marks[i - 1]) {
                    rest.append(" .. ");
                }
            }
            System.out.println(head + ": " + rest);
        }
    }
}
