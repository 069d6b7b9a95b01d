import java.io.DataInputStream;
import java.io.IOException;
import java.io.InputStream;
import java.lang.reflect.Constructor;
import java.lang.reflect.Field;
import java.lang.reflect.Method;
import java.lang.reflect.Modifier;
import java.nio.file.Files;
import java.nio.file.Path;
import java.util.Set;
import java.util.TreeSet;

/** The face is the document's and no more, and the class keeps to those rules of LANGUAGE.md that a test can see. */
public final class FaceTest {
    private static final String[] FACE = {
        "boolean field(int,int,int,int,int)", "boolean kind(int,int,int)", "int thing(int,int)", "int tick()",
        "int word(int,int,int,int,int,int)", "int words(int,int)", "boolean set(int,int)", "int missed(int,int)",
        "boolean giveUp(int,int)", "int forget(int)", "int said(int,int,int,int)", "int guess(int,int,int,int,int)",
        "int feed(int,int,int,int,int)", "int end(int)", "int rule(int)", "boolean force(int,boolean)",
        "int held(int,int,int)", "int acts(int,int)", "int rank(int,int,int)", "boolean wish(int,int,int,int)",
        "int wished(int,int,int)", "int order(int,int,int)", "int wake(int)", "boolean answer(int,boolean)",
        "int orders(int,int)", "int pulls(int,int)", "int ring()", "int shown(int,int)", "int question(int,long,int)",
        "int width(int,int)", "int ask(int)", "long asked()", "boolean join(int,int)", "boolean odds(int,int,int)",
        "boolean begin(int,int)", "boolean report(int,boolean)", "int worse(int)", "int stop(int)", "int back(int)",
        "int things(int,int)", "int count(int)"};
    private static final Check check = new Check();

    public static void main(String[] args) throws Exception {
        face();
        Set<String> names = new TreeSet<>();
        for (String method : FACE) {
            names.add(method.substring(method.indexOf(' ') + 1, method.indexOf('(')));
        }
        insides(ThingPost.class, names);
        check.due("classes", ThingPost.class.getDeclaredClasses().length <= 12 ? 1 : 0, 1);
        for (Class<?> inside : ThingPost.class.getDeclaredClasses()) {
            check.due("static: " + inside, Modifier.isStatic(inside.getModifiers()), true);
            check.due("not public: " + inside, Modifier.isPublic(inside.getModifiers()), false);
            insides(inside, names);
        }
        source();
        library(ThingPost.class);
        for (Class<?> inside : ThingPost.class.getDeclaredClasses()) {
            library(inside);
        }
        check.end();
    }

    private static void face() {
        check.due("final", Modifier.isFinal(ThingPost.class.getModifiers()), true);
        Set<String> due = new TreeSet<>(Set.of(FACE));
        for (Method method : ThingPost.class.getDeclaredMethods()) {
            if (Modifier.isPrivate(method.getModifiers()) || method.isSynthetic()) {
                continue;
            }
            StringBuilder text = new StringBuilder(method.getReturnType() + " " + method.getName() + "(");
            for (Class<?> type : method.getParameterTypes()) {
                text.append(text.charAt(text.length() - 1) == '(' ? "" : ",").append(type);
            }
            text.append(')');
            check.due("in the document's face: " + text, due.remove(text.toString()), true);
            check.due("public: " + text, Modifier.isPublic(method.getModifiers()), true);
        }
        for (String method : due) {
            check.due("there: " + method, false, true);
        }
        Constructor<?>[] made = ThingPost.class.getDeclaredConstructors();
        check.due("constructors", made.length, 1);
        check.due("public constructor", Modifier.isPublic(made[0].getModifiers()), true);
    }

    private static void insides(Class<?> type, Set<String> names) {
        int own = 0;
        for (Field field : type.getDeclaredFields()) {
            boolean fixed = Modifier.isStatic(field.getModifiers());
            own += fixed ? 0 : 1;
            check.due("static is final: " + field, fixed && !Modifier.isFinal(field.getModifiers()), false);
            if (type == ThingPost.class) {
                check.due("private: " + field, Modifier.isPrivate(field.getModifiers()), !field.getName().equals("NONE"));
            }
        }
        check.due("fields of " + type, own <= 20 ? 1 : 0, 1);
        for (Method method : type.getDeclaredMethods()) {
            boolean own2 = Modifier.isPrivate(method.getModifiers());
            check.due("name of its own: " + method, own2 && names.contains(method.getName()), false);
            check.due("parameters: " + method, method.getParameterCount() <= 7, true);
        }
    }

    // Of what rule 4 allows, these alone are used; a new one is put here once it is looked up there.
    private static final Set<String> LIBRARY = Set.of("java/lang/Object.<init>", "java/lang/Math.min", "java/lang/Math.max",
        "java/lang/String.length", "java/lang/String.charAt", "java/lang/System.arraycopy");

    /** Rules 2 and 4 by the constants of a compiled class: what it calls outside of itself, and no lambda. */
    private static void library(Class<?> type) throws IOException {
        String file = type.getName() + ".class";
        try (InputStream bytes = type.getResourceAsStream(file); DataInputStream in = new DataInputStream(bytes)) {
            in.readInt();
            in.readInt();
            int size = in.readUnsignedShort();
            int[] tags = new int[size];
            int[][] parts = new int[size][2];
            String[] texts = new String[size];
            for (int i = 1; i < size; i++) {
                tags[i] = in.readUnsignedByte();
                switch (tags[i]) {
                    case 1: texts[i] = in.readUTF(); break;
                    case 3: case 4: in.readInt(); break;
                    case 5: case 6: in.readLong(); i++; break;
                    case 7: case 8: case 16: case 19: case 20: parts[i][0] = in.readUnsignedShort(); break;
                    case 15: in.readUnsignedByte(); in.readUnsignedShort(); break;
                    default: parts[i] = new int[] {in.readUnsignedShort(), in.readUnsignedShort()}; break;
                }
            }
            for (int i = 1; i < size; i++) {
                check.due("a lambda or a joined text in " + file, tags[i] >= 15 && tags[i] <= 18, false);
                if (tags[i] == 10 || tags[i] == 11) {
                    String call = texts[parts[parts[i][0]][0]] + "." + texts[parts[parts[i][1]][0]];
                    check.due(call + " in " + file, call.startsWith("ThingPost") || LIBRARY.contains(call), true);
                }
            }
        }
    }

    private static void source() throws Exception {
        String text = Files.readString(Path.of("src/main/java/ThingPost.java"));
        for (int i = 0; i < text.length(); i++) {
            if (text.charAt(i) > 126) {
                check.due("sign " + i, text.charAt(i), 126);
            }
        }
        String code = text.replaceAll("(?s)/\\*.*?\\*/|//[^\n]*", "");
        String[] words = {"throw", "throws", "try", "catch", "synchronized", "assert", "import", "package", "protected",
            "float", "double", "Exact", "equals", "hashCode", "toString"};
        for (String word : words) {
            check.due("free of " + word, code.matches("(?s).*\\b" + word + "\\b.*"), false);
        }
        for (String sign : new String[] {"->", "::", "\" +", "+ \""}) {
            check.due("free of " + sign, code.contains(sign), false);
        }
        int length = 0;
        for (String line : code.split("\n")) {
            boolean starts = line.matches(" {4,8}[A-Za-z].*\\{");
            length = starts ? 0 : length + 1;
            if (line.matches(" {4,8}\\}") && length > 60 && !line.startsWith("    }")) {
                check.due("lines of a method that ends with: " + line, length, 60);
            }
        }
    }
}
