import java.lang.reflect.Method;
import java.lang.reflect.Modifier;
import java.nio.file.Files;
import java.nio.file.Path;
import java.util.ArrayList;
import java.util.HashMap;
import java.util.HashSet;
import java.util.LinkedHashMap;
import java.util.List;
import java.util.Map;
import java.util.Set;
import java.util.TreeSet;

/** The class against the rules of LANGUAGE.md, by their numbers, as far as its text and its code show them. */
public final class LanguageTest {
    private static final Check check = new Check();
    private static final List<Class<?>> types = new ArrayList<>();
    private static final List<ClassFile> files = new ArrayList<>();
    // Which methods each method calls, its own and the library's, by class, name and type.
    private static final Map<String, Set<String>> calls = new LinkedHashMap<>();

    public static void main(String[] args) throws Exception {
        types.add(ThingPost.class);
        types.addAll(List.of(ThingPost.class.getDeclaredClasses()));
        for (Class<?> type : types) {
            files.add(new ClassFile(type));
        }
        gatherCalls();
        oneFace();
        twoClasses();
        threeTypes();
        fourLibrary();
        fiveStatics();
        sixThrows();
        sevenDivisors();
        eightRecursion();
        tenTexts();
        elevenSizes();
        twelveObjects();
        check.end();
    }

    private static String source() throws Exception {
        return Files.readString(Path.of("src/main/java/ThingPost.java"));
    }

    private static String code() throws Exception {
        return source().replaceAll("(?s)/\\*.*?\\*/|//[^\n]*", "");
    }

    private static void gatherCalls() {
        for (ClassFile file : files) {
            for (ClassFile.Member method : file.methods) {
                Set<String> called = new TreeSet<>();
                for (ClassFile.Step step : method.steps) {
                    if (step.calls()) {
                        called.add(step.named);
                    }
                }
                calls.put(file.name + "." + method.name + method.type, called);
            }
        }
    }

    private static boolean isOwn(String method) {
        return method.startsWith("ThingPost.") || method.startsWith("ThingPost$");
    }

    /** Rule 1, as far as FaceTest does not look at it. */
    private static void oneFace() {
        Set<String> names = new TreeSet<>();
        for (Method method : ThingPost.class.getDeclaredMethods()) {
            if (Modifier.isPublic(method.getModifiers())) {
                names.add(method.getName());
            }
        }
        for (Class<?> type : types) {
            for (Method method : type.getDeclaredMethods()) {
                boolean hidden = Modifier.isPrivate(method.getModifiers());
                check.due("1: a private method with a public one's name: " + method, hidden && names.contains(method.getName()), false);
            }
        }
    }

    private static void twoClasses() {
        for (Class<?> type : types) {
            boolean inside = type != ThingPost.class;
            check.due("2: static: " + type, Modifier.isStatic(type.getModifiers()), inside);
            check.due("1: public: " + type, Modifier.isPublic(type.getModifiers()), !inside);
            check.due("2: local or without a name: " + type, type.isLocalClass() || type.isAnonymousClass(), false);
        }
        for (ClassFile file : files) {
            for (int i = 0; i < file.tags.length; i++) {
                check.due("2, 10: a lambda or a joined text in " + file.name, file.tags[i] >= 15 && file.tags[i] <= 18, false);
            }
        }
    }

    private static void threeTypes() {
        String one = "(\\[?([IJSBCZ]|LThingPost(\\$[A-Za-z]+)?;)|Ljava/lang/String;|\\[\\[[IJSBC])";
        for (ClassFile file : files) {
            for (ClassFile.Member field : file.fields) {
                check.due("3: " + file.name + "." + field.name, field.type.matches(one), true);
            }
            for (ClassFile.Member method : file.methods) {
                check.due("3: " + file.name + "." + method.name, method.type.matches("\\(" + one + "*\\)(V|" + one + ")"), true);
            }
        }
    }

    // Of what rule 4 allows, these alone are used; a new one is put here once it is looked up there.
    private static final Set<String> LIBRARY = Set.of("java/lang/Object.<init>()V", "java/lang/Math.min(II)I",
        "java/lang/Math.max(II)I", "java/lang/String.length()I", "java/lang/String.charAt(I)C",
        "java/lang/System.arraycopy(Ljava/lang/Object;ILjava/lang/Object;II)V");

    private static void fourLibrary() throws Exception {
        for (Map.Entry<String, Set<String>> entry : calls.entrySet()) {
            for (String called : entry.getValue()) {
                check.due("4: " + called + " in " + entry.getKey(), isOwn(called) || LIBRARY.contains(called), true);
            }
        }
        String text = source();
        for (int i = 0; i < text.length(); i++) {
            if (text.charAt(i) > 126) {
                check.due("4: the sign at " + i, text.charAt(i), 126);
            }
        }
    }

    private static void fiveStatics() {
        for (ClassFile file : files) {
            for (ClassFile.Member field : file.fields) {
                check.due("5: a static field that is no constant: " + file.name + "." + field.name, field.isStatic(), field.hasConstant);
            }
            for (ClassFile.Member method : file.methods) {
                check.due("5: a static block in " + file.name, method.name.equals("<clinit>"), false);
            }
        }
    }

    private static void sixThrows() throws Exception {
        String code = code();
        for (String word : new String[] {"throw", "throws", "try", "catch", "finally", "synchronized", "assert", "import",
            "package", "protected", "instanceof", "equals", "hashCode", "toString"}) {
            check.due("6: free of " + word, code.matches("(?s).*\\b" + word + "\\b.*"), false);
        }
        for (ClassFile file : files) {
            for (ClassFile.Member method : file.methods) {
                check.due("6: catches of " + file.name + "." + method.name, method.catches, 0);
                for (ClassFile.Step step : method.steps) {
                    boolean bad = step.code == 191 || step.code == 192 || step.code == 194 || step.code == 195;
                    check.due("6: throws, casts or locks: " + file.name + "." + method.name, bad, false);
                }
            }
        }
    }

    /** Rule 7: a divisor is a number other than 0, written where it divides. */
    private static void sevenDivisors() {
        for (ClassFile file : files) {
            for (ClassFile.Member method : file.methods) {
                for (int i = 0; i < method.steps.size(); i++) {
                    int code = method.steps.get(i).code;
                    if (code >= 108 && code <= 115) {
                        boolean whole = code == 108 || code == 112;
                        check.due("7: a divisor in " + file.name + "." + method.name, whole && i > 0 && method.steps.get(i - 1).pushed != 0, true);
                    }
                }
            }
        }
    }

    private static Set<String> reached(String method) {
        Set<String> all = new HashSet<>();
        List<String> open = new ArrayList<>(List.of(method));
        while (!open.isEmpty()) {
            for (String called : calls.getOrDefault(open.remove(open.size() - 1), Set.of())) {
                if (all.add(called)) {
                    open.add(called);
                }
            }
        }
        return all;
    }

    private static void eightRecursion() {
        Set<String> due = Set.of("ThingPost$RuleReader.readFact(I)Z", "ThingPost$RuleReader.readTest(I)Z");
        for (String method : calls.keySet()) {
            boolean again = reached(method).contains(method);
            check.due("8: calls itself, at last: " + method, again, due.contains(method));
        }
        Map<String, Integer> depths = new HashMap<>();
        for (String method : calls.keySet()) {
            int deep = depth(method, depths, Set.of());
            check.due("11: " + method + " goes " + deep + " deep", deep <= 8, true);
        }
    }

    /** How many calls stand open at most, the method's own counted, and each method of a recursion once. */
    private static int depth(String method, Map<String, Integer> depths, Set<String> open) {
        if (depths.containsKey(method)) {
            return depths.get(method);
        }
        Set<String> here = new HashSet<>(open);
        here.add(method);
        int deepest = 0;
        for (String called : calls.getOrDefault(method, Set.of())) {
            if (isOwn(called) && !here.contains(called)) {
                deepest = Math.max(deepest, depth(called, depths, here));
            }
        }
        if (!reached(method).contains(method)) {
            depths.put(method, deepest + 1);
        }
        return deepest + 1;
    }

    private static void tenTexts() throws Exception {
        String code = code();
        for (String sign : new String[] {"->", "::", "\" +", "+ \""}) {
            check.due("10: free of " + sign, code.contains(sign), false);
        }
        for (String word : new String[] {"float", "double"}) {
            check.due("3: free of " + word, code.matches("(?s).*\\b" + word + "\\b.*"), false);
        }
    }

    private static void elevenSizes() {
        check.due("11: " + types.size() + " classes", types.size() <= 12, true);
        for (ClassFile file : files) {
            int own = 0;
            for (ClassFile.Member field : file.fields) {
                own += field.isStatic() ? 0 : 1;
            }
            check.due("11: " + own + " fields of " + file.name, own <= 20, true);
            for (ClassFile.Member method : file.methods) {
                // A method's lines begin and end with its head and its bracket, which have no code.
                int lines = method.lastLine - method.firstLine + 2;
                boolean made = method.name.equals("<init>");
                check.due("11: " + lines + " lines of " + file.name + "." + method.name, made || lines <= 60, true);
            }
        }
        for (Class<?> type : types) {
            for (Method method : type.getDeclaredMethods()) {
                check.due("11: parameters of " + method, method.getParameterCount() <= 7, true);
            }
        }
    }

    /** Rule 12, and more: all objects and arrays are made by constructors, so that no call makes any. */
    private static void twelveObjects() {
        for (ClassFile file : files) {
            for (ClassFile.Member method : file.methods) {
                boolean made = method.name.equals("<init>");
                for (ClassFile.Step step : method.steps) {
                    check.due("12: " + file.name + "." + method.name + " makes something", step.makes() && !made, false);
                }
                check.due("12: a constructor that can be overridden: " + file.name, made && !isFinal(file.name), false);
            }
        }
    }

    private static boolean isFinal(String name) {
        for (Class<?> type : types) {
            if (type.getName().equals(name)) {
                return Modifier.isFinal(type.getModifiers());
            }
        }
        return false;
    }
}
