import java.io.IOException;
import java.lang.reflect.Constructor;
import java.lang.reflect.Field;
import java.lang.reflect.Method;
import java.lang.reflect.Modifier;
import java.nio.charset.StandardCharsets;
import java.nio.file.Files;
import java.nio.file.Path;
import java.util.Set;
import java.util.TreeSet;
import java.util.regex.Matcher;
import java.util.regex.Pattern;

/** The public face of the document, and what can be seen of LANGUAGE.md in the source. */
final class FaceTests {
    private static final String[] FACE = {
        "int type(int)", "int clear()", "int town()", "int cart(int,int)", "int ground(int)", "int takes(int)",
        "int late(int,int)", "int nine()", "int pin(int)", "int storm()", "int widens(int)", "int floods(int,int)",
        "int loses(int,int)", "int undo()", "int now(int)", "int order(int)", "int between(int,int)",
        "int windward(int,int)", "int best(int)", "int ropes(int)", "int dark(int)", "int soon(int,int)",
        "int saw(int,int)", "int forget()", "int who()", "int odds(int,int,int,int)", "int mark(int,int)",
        "int keep(int)", "int back(int)", "int count(int)", "long trace()"};
    private static final String[] FORBIDDEN = {
        "\\bthrow\\b", "\\btry\\b", "\\bcatch\\b", "\\bsynchronized\\b", "\\bassert\\b", "->", "::", "\\bimport\\b",
        "\\bpackage\\b", "\\bhashCode\\b", "\\btoString\\b", "Exact\\b", "\\bThread\\b", "\\bRandom\\b", "nanoTime",
        "currentTimeMillis", "\\bfloat\\b", "\\bdouble\\b"};
    /** What the class takes of the library; all of it stands in LANGUAGE.md, rule 4. */
    private static final Set<String> LIBRARY = Set.of("Integer.bitCount", "Long.bitCount", "Math.min",
        "System.arraycopy");
    private static final int LONGEST_METHOD = 60;
    private static final int MOST_CLASSES = 12;
    private static final int MOST_FIELDS = 20;
    private static final int MOST_PARAMETERS = 7;

    public static void main(String[] args) throws IOException {
        Checks checks = new Checks();
        constants(checks);
        face(checks);
        classes(checks);
        String source = withoutComments(Files.readString(Path.of("src/main/java/WalkingStreets.java"),
            StandardCharsets.ISO_8859_1));
        words(checks, source);
        methods(checks, source);
        library(checks, source);
        checks.end();
    }

    private static void constants(Checks checks) {
        checks.due("BAD", WalkingStreets.BAD, -1);
        checks.due("STATE", WalkingStreets.STATE, -2);
        checks.due("FULL", WalkingStreets.FULL, -3);
        checks.due("NONE", WalkingStreets.NONE, -9);
        checks.due("NO", WalkingStreets.NO, -1000000);
    }

    private static void face(Checks checks) {
        Set<String> wanted = new TreeSet<>(Set.of(FACE));
        Set<String> found = new TreeSet<>();
        for (Method method : WalkingStreets.class.getDeclaredMethods()) {
            if (!Modifier.isPrivate(method.getModifiers())) {
                found.add(signature(method));
            }
        }
        checks.holds("the face " + found, found.equals(wanted));
        Set<String> fields = new TreeSet<>();
        for (Field field : WalkingStreets.class.getDeclaredFields()) {
            if (!Modifier.isPrivate(field.getModifiers())) {
                fields.add(field.getName());
            }
        }
        checks.holds("the constants " + fields, fields.equals(Set.of("BAD", "STATE", "FULL", "NONE", "NO")));
        Constructor<?>[] constructors = WalkingStreets.class.getDeclaredConstructors();
        checks.due("constructors", constructors.length, 1);
        checks.holds("the constructor is public and takes nothing",
            Modifier.isPublic(constructors[0].getModifiers()) && constructors[0].getParameterCount() == 0);
        int modifiers = WalkingStreets.class.getModifiers();
        checks.holds("public and final", Modifier.isPublic(modifiers) && Modifier.isFinal(modifiers));
    }

    private static String signature(Method method) {
        StringBuilder text = new StringBuilder(method.getReturnType().getName());
        text.append(' ').append(method.getName()).append('(');
        for (int i = 0; i < method.getParameterCount(); i++) {
            text.append(i > 0 ? "," : "").append(method.getParameterTypes()[i].getName());
        }
        return text.append(')').toString();
    }

    private static void classes(Checks checks) {
        Set<String> names = new TreeSet<>();
        for (String each : FACE) {
            names.add(each.substring(each.indexOf(' ') + 1, each.indexOf('(')));
        }
        Class<?>[] inside = WalkingStreets.class.getDeclaredClasses();
        checks.holds("classes " + inside.length, inside.length < MOST_CLASSES);
        oneClass(checks, WalkingStreets.class);
        for (Class<?> each : inside) {
            oneClass(checks, each);
            checks.holds(each + " is static and not public",
                Modifier.isStatic(each.getModifiers()) && !Modifier.isPublic(each.getModifiers()));
            for (Method method : each.getDeclaredMethods()) {
                checks.holds(method + " bears a name of its own", !names.contains(method.getName()));
            }
        }
        for (Method method : WalkingStreets.class.getDeclaredMethods()) {
            checks.holds(method + " bears a name of its own",
                !Modifier.isPrivate(method.getModifiers()) || !names.contains(method.getName()));
        }
    }

    private static void oneClass(Checks checks, Class<?> each) {
        int fields = 0;
        for (Field field : each.getDeclaredFields()) {
            boolean isStatic = Modifier.isStatic(field.getModifiers());
            checks.holds(field + " is final", !isStatic || Modifier.isFinal(field.getModifiers()));
            fields += isStatic ? 0 : 1;
        }
        checks.holds(each + " has few fields", fields <= MOST_FIELDS);
        for (Method method : each.getDeclaredMethods()) {
            checks.holds(method + " has few parameters", method.getParameterCount() <= MOST_PARAMETERS);
        }
    }

    private static String withoutComments(String source) {
        return source.replaceAll("(?s)/\\*.*?\\*/", "").replaceAll("//[^\n]*", "");
    }

    private static void words(Checks checks, String source) {
        for (String word : FORBIDDEN) {
            checks.holds("no " + word, !Pattern.compile(word).matcher(source).find());
        }
    }

    /**
     * A method's first line ends with {, its last is a } as far in. A constructor's name begins with a capital; all
     * that a run makes is made there, so that no number of calls fills the room.
     */
    private static void methods(Checks checks, String source) {
        Matcher method = Pattern.compile("(?m)^( {4}| {8})(?:private|public) [^;=\n]*?(\\w+)\\([^;\n]*\\{\n")
            .matcher(source);
        int methods = 0;
        while (method.find()) {
            int end = source.indexOf("\n" + method.group(1) + "}", method.start());
            String body = source.substring(method.start(), Math.max(end, method.start()));
            String name = method.group().trim();
            long lines = body.lines().count();
            checks.holds(name + " " + lines + " lines", end > 0 && lines <= LONGEST_METHOD);
            boolean makes = Pattern.compile("\\bnew\\b|\\bclone\\b").matcher(body).find();
            checks.holds(name + " makes nothing", !makes || Character.isUpperCase(method.group(2).charAt(0)));
            methods++;
        }
        checks.holds("methods found: " + methods, methods > FACE.length);
    }

    private static void library(Checks checks, String source) {
        Matcher call = Pattern.compile("\\b(?!WalkingStreets\\b)([A-Z]\\w*[a-z]\\w*\\.\\w+)\\(").matcher(source);
        int calls = 0;
        while (call.find()) {
            checks.holds(call.group(1) + " is taken of the library", LIBRARY.contains(call.group(1)));
            calls++;
        }
        checks.holds("calls of the library found: " + calls, calls > 0);
        checks.holds("no text is made", !Pattern.compile("\\bString(Builder)?\\b|\"").matcher(source).find());
    }

    private FaceTests() {
    }
}
