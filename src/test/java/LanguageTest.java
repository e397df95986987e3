import java.lang.reflect.Constructor;
import java.lang.reflect.Field;
import java.lang.reflect.Method;
import java.lang.reflect.Modifier;
import java.nio.file.Files;
import java.nio.file.Path;
import java.util.Arrays;
import java.util.HashSet;
import java.util.Set;
import java.util.TreeSet;
import java.util.regex.Matcher;
import java.util.regex.Pattern;

/** The face is the document's and no more, and the source keeps to those rules of LANGUAGE.md that a look can tell. */
public final class LanguageTest {
    private static final String[] FACE = {
        "int master(int, int)", "int of(int, int)", "int grip(int, int, int)", "int tell(int, int)",
        "int mind(int, int)", "int deed(int, int, int)", "int footman(int)", "int out(int, boolean)",
        "int lost(int)", "int row(int, int, int)", "int feed(int)", "int house()", "int told(int)",
        "int pass(int)", "int on(int, int)", "int see(int, int, int, boolean)", "int wrong()",
        "int can(int, int)", "int knew(int, int, int, int)", "long odds(int, int)", "long mean(int, int)",
        "int plan(int, int)", "int ends(int)", "int book(int, int)", "int looked()", "int judge(int, int)",
        "int image()", "int undo()", "int act(int, int, int)", "int trace(int)", "int taken(int, int)",
        "int count(int)", "int tape(int, int, int)", "int item(int, int, long)", "long read(int, int)",
        "int shift(int, int, int, int, int)"
    };
    private static final String[] REFUSED = {
        "\\bthrow\\b", "\\bthrows\\b", "\\btry\\b", "\\bcatch\\b", "\\bsynchronized\\b", "\\bassert\\b", "->", "::",
        "@", "\\bpackage\\b", "\\bdouble\\b", "\\bfloat\\b", "Exact\\b", "\\bRandom\\b", "\\bThread\\b",
        "\\bSystem\\.(?!arraycopy\\b)", "\\bhashCode\\b", "\\btoString\\b", "\\bgetClass\\b", "\\bprotected\\b",
        "\\bimport (?!java\\.util\\.(Arrays|ArrayList|List|Iterator);)", "\\bstatic \\{"
    };

    private static int wrong = 0;

    private static void due(String what, boolean is) {
        if (!is) {
            wrong++;
            System.out.println("not so: " + what);
        }
    }

    private static String signature(Method m) {
        StringBuilder s = new StringBuilder(m.getReturnType().getSimpleName() + " " + m.getName() + "(");
        Class<?>[] types = m.getParameterTypes();
        for (int i = 0; i < types.length; i++) {
            s.append(i == 0 ? "" : ", ").append(types[i].getSimpleName());
        }
        return s.append(")").toString();
    }

    private static void face() throws IllegalAccessException {
        Class<?> c = ButlerRemembers.class;
        due("the class is final", Modifier.isFinal(c.getModifiers()));
        Set<String> open = new TreeSet<>();
        Set<String> names = new HashSet<>();
        for (Method m : c.getDeclaredMethods()) {
            if (Modifier.isPublic(m.getModifiers())) {
                open.add(signature(m));
                names.add(m.getName());
            } else {
                due(m.getName() + " is private", Modifier.isPrivate(m.getModifiers()));
            }
        }
        due("the public methods are the document's", open.equals(new TreeSet<>(Arrays.asList(FACE))));
        for (Constructor<?> k : c.getDeclaredConstructors()) {
            due("one constructor, without parameters", k.getParameterCount() == 0 && Modifier.isPublic(k.getModifiers()));
        }
        Set<String> constants = new TreeSet<>();
        for (Field f : c.getDeclaredFields()) {
            if (Modifier.isPublic(f.getModifiers())) {
                constants.add(f.getName() + " " + f.get(null));
            } else {
                due(f.getName() + " is private", Modifier.isPrivate(f.getModifiers()));
            }
        }
        due("the constants are the document's", constants.equals(new TreeSet<>(Arrays.asList(
            "NONE -1", "BAD -2", "STATE -3", "FULL -4", "NO -9223372036854775808"))));
        inside(c, names);
    }

    private static void inside(Class<?> c, Set<String> faceNames) {
        Class<?>[] classes = c.getDeclaredClasses();
        due("at most twelve classes", classes.length + 1 <= 12);
        for (Class<?> k : classes) {
            due(k.getName() + " is static", Modifier.isStatic(k.getModifiers()));
            for (Method m : k.getDeclaredMethods()) {
                due(m.getName() + " is not a name of the face", !faceNames.contains(m.getName()));
                due(m.getName() + " has at most seven parameters", m.getParameterCount() <= 7);
            }
            int fields = 0;
            for (Field f : k.getDeclaredFields()) {
                boolean constant = Modifier.isStatic(f.getModifiers());
                due(f.getName() + ": static is final", !constant || Modifier.isFinal(f.getModifiers()));
                fields += constant ? 0 : 1;
            }
            due(k.getName() + " has at most twenty fields", fields <= 20);
        }
        for (Method m : c.getDeclaredMethods()) {
            boolean hides = Modifier.isPrivate(m.getModifiers()) && faceNames.contains(m.getName());
            due(m.getName() + " is not both public and private", !hides);
        }
    }

    private static String withoutComments(String source) {
        return source.replaceAll("(?s)/\\*.*?\\*/", "").replaceAll("//[^\n]*", "");
    }

    private static void source(String path) throws java.io.IOException {
        String source = Files.readString(Path.of(path));
        String code = withoutComments(source);
        for (String refused : REFUSED) {
            Matcher m = Pattern.compile(refused).matcher(code);
            due("the source has no " + refused, !m.find());
        }
        int length = 0;
        boolean inMethod = false;
        for (String line : source.split("\n")) {
            boolean begins = line.matches("( {4}| {8})[a-zA-Z].*\\(.*\\) \\{") && !line.matches(" +(if|for|while|switch).*");
            if (begins) {
                inMethod = true;
                length = 0;
            }
            length++;
            if (inMethod && line.matches("( {4}| {8})\\}")) {
                due("a method of " + length + " lines is short", length <= 60);
                inMethod = false;
            }
        }
    }

    public static void main(String[] args) throws Exception {
        face();
        source(System.getProperty("source", "src/main/java/ButlerRemembers.java"));
        System.out.println(wrong == 0 ? "the rules that were looked at are kept" : wrong + " rules are broken");
        if (wrong != 0) {
            System.exit(1);
        }
    }
}
