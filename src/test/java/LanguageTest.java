import java.io.IOException;
import java.lang.reflect.Constructor;
import java.lang.reflect.Executable;
import java.lang.reflect.Field;
import java.lang.reflect.Method;
import java.lang.reflect.Modifier;
import java.nio.file.Files;
import java.nio.file.Path;
import java.util.Set;
import java.util.TreeSet;
import java.util.regex.Matcher;
import java.util.regex.Pattern;

/** The face, and the rules of LANGUAGE.md that the members and the text of the class show. */
public final class LanguageTest {
    private static final Path SOURCE = Path.of("src/main/java/NearDesk.java");
    private static final Set<String> FACE = Set.of(
            "public int put(int,int,int,int,int)", "public boolean remove(int)", "public int renew()",
            "public boolean ask(int,int,int,int)", "public int near(int,int)", "public int exact(int)",
            "public int match(int,int)", "public int fuse(int,int)", "public int found(int,int)",
            "public int node(int,int)", "public int neighbour(int,int,int)", "public int count(int)");
    private static final String[] FORBIDDEN = {
        "\\bthrow\\b", "\\bthrows\\b", "\\btry\\b", "\\bcatch\\b", "\\bsynchronized\\b", "\\bassert\\b",
        "->", "::", "\\bimport\\b", "\\bpackage\\b", "\\bSystem\\b", "\\bRandom\\b", "\\bThread\\b",
        "\\bObject\\b", "\\bhashCode\\b", "\\btoString\\b", "Exact\\b", "\\bstatic\\s*\\{"};

    /** Those of rule 4 that the class has use for. */
    private static final Set<String> LIBRARY = Set.of("Math.max", "Math.min", "Integer.bitCount");

    public static void main(String[] args) throws IOException {
        Checks checks = new Checks();
        face(checks);
        members(checks);
        text(checks);
        checks.end();
    }

    private static void face(Checks checks) {
        checks.isTrue("public and final", NearDesk.class.getModifiers() == (Modifier.PUBLIC | Modifier.FINAL));
        Set<String> methods = new TreeSet<>();
        for (Method m : NearDesk.class.getDeclaredMethods()) {
            if (!Modifier.isPrivate(m.getModifiers())) {
                methods.add(m.toString().replace("NearDesk.", ""));
            }
        }
        checks.isTrue("the methods of the face and no others: " + methods, methods.equals(FACE));
        Set<String> fields = new TreeSet<>();
        for (Field f : NearDesk.class.getDeclaredFields()) {
            if (!Modifier.isPrivate(f.getModifiers())) {
                fields.add(f.toString());
            }
        }
        checks.isTrue("the constants of the face and no others: " + fields, fields.equals(Set.of(
                "public static final int NearDesk.REFUSED", "public static final int NearDesk.NONE",
                "public static final int NearDesk.FULL")));
        Constructor<?>[] constructors = NearDesk.class.getDeclaredConstructors();
        checks.isTrue("one constructor, public, without parameters", constructors.length == 1
                && constructors[0].getModifiers() == Modifier.PUBLIC && constructors[0].getParameterCount() == 0);
    }

    private static void members(Checks checks) {
        checks.isTrue("at most twelve classes", NearDesk.class.getDeclaredClasses().length < 12);
        membersOf(checks, NearDesk.class);
        for (Class<?> inside : NearDesk.class.getDeclaredClasses()) {
            checks.isTrue(inside + " is static", Modifier.isStatic(inside.getModifiers()));
            checks.isTrue(inside + " is not public", !Modifier.isPublic(inside.getModifiers()));
            membersOf(checks, inside);
            for (Method m : inside.getDeclaredMethods()) {
                checks.isTrue(m + " bears no name of the face", !isFaceName(m.getName()));
            }
        }
    }

    private static boolean isFaceName(String name) {
        return FACE.stream().anyMatch(m -> m.contains(" " + name + "("));
    }

    private static void membersOf(Checks checks, Class<?> type) {
        int fields = 0;
        for (Field f : type.getDeclaredFields()) {
            if (Modifier.isStatic(f.getModifiers())) {
                checks.isTrue(f + " is a constant", Modifier.isFinal(f.getModifiers()));
            } else {
                fields++;
            }
        }
        checks.isTrue(type + " has few fields", fields <= 20);
        for (Method m : type.getDeclaredMethods()) {
            parameters(checks, m);
        }
        for (Constructor<?> c : type.getDeclaredConstructors()) {
            parameters(checks, c);
        }
        if (type == NearDesk.class) {
            for (Method m : type.getDeclaredMethods()) {
                checks.isTrue(m + " bears no name of the face",
                        !Modifier.isPrivate(m.getModifiers()) || !isFaceName(m.getName()));
            }
        }
    }

    private static void parameters(Checks checks, Executable e) {
        checks.isTrue(e + " has at most seven parameters", e.getParameterCount() <= 7);
    }

    private static void text(Checks checks) throws IOException {
        String code = Files.readString(SOURCE).replaceAll("(?s)/\\*.*?\\*/", "").replaceAll("//.*", "");
        for (String forbidden : FORBIDDEN) {
            checks.isTrue("no " + forbidden, !Pattern.compile(forbidden).matcher(code).find());
        }
        for (String line : code.split("\n")) {
            checks.isTrue("made with the object, not by a call: " + line.trim(),
                    !line.contains("new ") || line.trim().startsWith("private final "));
        }
        Matcher library = Pattern.compile("\\b[A-Z]\\w*\\.\\w+").matcher(code);
        while (library.find()) {
            checks.isTrue(library.group() + " is a function that rule 4 names", LIBRARY.contains(library.group()));
        }
        Matcher method = Pattern.compile("(?m)^( {4}| {8})(?! )[^\\n;=]*\\) \\{\\n(?s:.*?)^\\1\\}").matcher(code);
        int methods = 0;
        while (method.find()) {
            methods++;
            long lines = method.group().lines().count();
            checks.isTrue("short: " + method.group().lines().findFirst().get().trim(), lines <= 60);
        }
        checks.isTrue("methods were looked at", methods > FACE.size());
    }
}
