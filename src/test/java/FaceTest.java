import java.lang.reflect.Constructor;
import java.lang.reflect.Field;
import java.lang.reflect.Method;
import java.lang.reflect.Modifier;
import java.nio.file.Files;
import java.nio.file.Path;
import java.util.Set;
import java.util.TreeSet;
import java.util.regex.Matcher;
import java.util.regex.Pattern;

/** The face is the document's and no more (rule 1 of LANGUAGE.md). */
public final class FaceTest {
    private static final String[] FACE = {
        "boolean field(int,int,int,int,int)", "boolean kind(int,int,int)", "int thing(int,int)", "int tick()",
        "int word(int,int,int,int,int,int)", "int words(int,int)", "boolean set(int,int)", "int missed(int,int)",
        "boolean giveUp(int,int)", "int forget(int)", "int said(int,int,int,int)", "int guess(int,int,int,int,int)",
        "int feed(int,int,int,int,int)", "int end(int)", "int rule(int)", "boolean force(int,boolean)",
        "int held(int,int,int)", "int acts(int,int)", "int rank(int,int,int)", "boolean wish(int,int,int,int)",
        "int wished(int,int,int)", "int order(int,int,int)", "int wake(int)", "boolean answer(int,boolean)",
        "int orders(int,int)", "int pulls(int,int)", "int ring()", "int shown(int,int)", "int question(int,long,int)",
        "int width(int,int)", "int ask(int)", "long asked()", "boolean join(int,int)", "boolean odds(int,int,int)",
        "boolean begin(int,int)", "boolean report(int,boolean)", "int worse(int)", "int stop(int)", "int back(int)",
        "int things(int,int)", "int count(int)"};
    private static final Check check = new Check();

    public static void main(String[] args) throws Exception {
        face();
        constants();
        document();
        check.end();
    }

    private static void face() {
        check.due("final", Modifier.isFinal(ThingPost.class.getModifiers()), true);
        Set<String> due = new TreeSet<>(Set.of(FACE));
        for (Method method : ThingPost.class.getDeclaredMethods()) {
            if (Modifier.isPrivate(method.getModifiers()) || method.isSynthetic()) {
                continue;
            }
            StringBuilder text = new StringBuilder(method.getReturnType() + " " + method.getName() + "(");
            for (Class<?> type : method.getParameterTypes()) {
                text.append(text.charAt(text.length() - 1) == '(' ? "" : ",").append(type);
            }
            text.append(')');
            check.due("in the document's face: " + text, due.remove(text.toString()), true);
            check.due("public: " + text, Modifier.isPublic(method.getModifiers()), true);
        }
        for (String method : due) {
            check.due("there: " + method, false, true);
        }
        Constructor<?>[] made = ThingPost.class.getDeclaredConstructors();
        check.due("constructors", made.length, 1);
        check.due("public constructor", Modifier.isPublic(made[0].getModifiers()), true);
    }

    /** No field is seen from outside but the constant, and no class inside. */
    private static void constants() {
        for (Field field : ThingPost.class.getDeclaredFields()) {
            boolean told = field.getName().equals("NONE");
            check.due("private: " + field, Modifier.isPrivate(field.getModifiers()), !told);
            check.due("public: " + field, Modifier.isPublic(field.getModifiers()), told);
        }
        check.due("NONE", ThingPost.NONE, -1);
        check.due("classes seen from outside", ThingPost.class.getClasses().length, 0);
    }

    /** The face that is looked at here is the one that stands in the document. */
    private static void document() throws Exception {
        Path file = Path.of("../shared/DOC.md");
        if (!Files.exists(file)) {
            System.out.println("the document is not at " + file + ": its face is not looked up");
            return;
        }
        Set<String> told = new TreeSet<>();
        Matcher line = Pattern.compile("(?m)^    public (\\w+ \\w+)\\((.*)\\);$").matcher(Files.readString(file));
        while (line.find()) {
            told.add(line.group(1) + "(" + line.group(2).replaceAll(" \\w+(, )?", ",").replaceAll(",$", "") + ")");
        }
        check.due("the document's face", told.equals(Set.of(FACE)), true);
    }
}
