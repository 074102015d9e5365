import java.io.IOException;
import java.lang.reflect.Constructor;
import java.lang.reflect.Field;
import java.lang.reflect.Method;
import java.lang.reflect.Modifier;
import java.nio.file.Files;
import java.nio.file.Path;
import java.util.Arrays;
import java.util.Set;
import java.util.TreeSet;
import java.util.regex.Pattern;

/** The class's face is the document's, and its source keeps to what LANGUAGE.md rules out by words. */
public final class FaceTest {
    private static final String[] FACE = {
        "int child(int, int)", "int of(int, int)", "int set(int, int, int)", "int row(int, int, int)",
        "int counts(int, int)", "int feed(int)", "int yard()", "int told(int)", "int turn()",
        "int on(int, int)", "int touches(int)", "int first()", "int risks()", "int stands(int)",
        "int slow(int, int)", "int order(int, int)", "int look(int)", "int needs(int, int)",
        "int held(int, int)", "int shield(int, int, int)", "int see(int, int, int)", "int since()",
        "int who(int, int)", "long odds(int, int)", "long mean(int, int)", "int book(int, int)",
        "int looked()", "int judge(int, int)", "int image()", "int undo()", "int act(int, int, int)",
        "int trace(int)", "int taken(int, int)", "int count(int)", "int tape(int, int, int)",
        "int item(int, int, long)", "long read(int, int)", "int shift(int, int, int, int, int)",
    };
    private static final String[] CONSTANTS = {"NONE", "BAD", "STATE", "FULL", "NO"};
    private static final String[] RULED_OUT = {
        "\\bthrow\\b", "\\btry\\b", "\\bcatch\\b", "\\bsynchronized\\b", "\\bassert\\b", "->", "::",
        "\\bimport\\b", "\\bpackage\\b", "Exact\\b", "\\bhashCode\\b", "\\btoString\\b", "@",
        "static\\s*\\{", "\\bSystem\\.(?!arraycopy)", "\\bvar\\b", "\\bRandom\\b", "\\bThread\\b",
    };

    public static void main(String[] args) throws IOException {
        Due due = new Due("FaceTest");
        methods(due);
        members(due);
        constants(due);
        source(due);
        due.end();
    }

    private static String written(Method m) {
        StringBuilder text = new StringBuilder(m.getReturnType() + " " + m.getName() + "(");
        for (int i = 0; i < m.getParameterCount(); i++) {
            text.append(i == 0 ? "" : ", ").append(m.getParameterTypes()[i]);
        }
        return text.append(")").toString();
    }

    private static void methods(Due due) {
        Set<String> wanted = new TreeSet<>(Arrays.asList(FACE));
        Set<String> names = new TreeSet<>();
        for (String each : FACE) {
            names.add(each.substring(each.indexOf(' ') + 1, each.indexOf('(')));
        }
        for (Method m : WhileSheLooks.class.getDeclaredMethods()) {
            if (Modifier.isPublic(m.getModifiers())) {
                due.isTrue("the face has " + written(m), wanted.remove(written(m)));
            } else {
                due.isTrue(m + " is private", Modifier.isPrivate(m.getModifiers()));
                due.isTrue(m + " has no public name", !names.contains(m.getName()));
            }
        }
        due.isTrue("missing of the face: " + wanted, wanted.isEmpty());
        for (Class<?> inside : WhileSheLooks.class.getDeclaredClasses()) {
            due.isTrue(inside + " is static", Modifier.isStatic(inside.getModifiers()));
            for (Method m : inside.getDeclaredMethods()) {
                due.isTrue(m + " has no public name", !names.contains(m.getName()));
            }
        }
        due.isTrue("some twelve classes", WhileSheLooks.class.getDeclaredClasses().length <= 11);
    }

    private static void members(Due due) {
        int modifiers = WhileSheLooks.class.getModifiers();
        due.isTrue("public and final", Modifier.isPublic(modifiers) && Modifier.isFinal(modifiers));
        Constructor<?>[] all = WhileSheLooks.class.getDeclaredConstructors();
        due.is("constructors", all.length, 1);
        due.isTrue("it is public", Modifier.isPublic(all[0].getModifiers()));
        due.is("its parameters", all[0].getParameterCount(), 0);
        Set<String> constants = new TreeSet<>(Arrays.asList(CONSTANTS));
        for (Field f : WhileSheLooks.class.getDeclaredFields()) {
            boolean isPublic = Modifier.isPublic(f.getModifiers());
            due.isTrue(f + " public or private", isPublic == constants.contains(f.getName())
                && (isPublic || Modifier.isPrivate(f.getModifiers())));
            due.isTrue(f + " final if static",
                !Modifier.isStatic(f.getModifiers()) || Modifier.isFinal(f.getModifiers()));
        }
    }

    private static void constants(Due due) {
        due.is("NONE", WhileSheLooks.NONE, -1);
        due.is("BAD", WhileSheLooks.BAD, -2);
        due.is("STATE", WhileSheLooks.STATE, -3);
        due.is("FULL", WhileSheLooks.FULL, -4);
        due.is("NO", WhileSheLooks.NO, Long.MIN_VALUE);
    }

    private static void source(Due due) throws IOException {
        String source = Files.readString(Path.of("src/main/java/WhileSheLooks.java"));
        String code = source.replaceAll("(?s)/\\*.*?\\*/", " ").replaceAll("//[^\n]*", " ");
        for (String word : RULED_OUT) {
            due.isTrue("no " + word, !Pattern.compile(word).matcher(code).find());
        }
        due.isTrue("signs 1 to 127", source.chars().allMatch(c -> c >= 1 && c <= 127));
    }
}
