import java.lang.reflect.Constructor;
import java.lang.reflect.Field;
import java.lang.reflect.Method;
import java.lang.reflect.Modifier;
import java.nio.file.Files;
import java.nio.file.Path;
import java.util.Arrays;
import java.util.Map;
import java.util.Set;
import java.util.TreeMap;
import java.util.TreeSet;
import java.util.regex.Matcher;
import java.util.regex.Pattern;

/** The face, and those rules of LANGUAGE.md that can be seen in the text of the program. */
public final class RulesTest {
    private static final String FACE = "all() breaking(int) by(int) cast(int,int) copies(int) copy() count(int) "
            + "fewest(int) fire(int,int) give(int,int) gone(int) image() judge() key(int,int) late() letter(int) "
            + "lose(int) lot(int,int,int) on() out(int) overslept() person(int,int) rings() row(int) seeds(int,int) "
            + "soonest(int) swap() town() wake(int,int) walk(int) watch(int)";
    private static final String[] FORBIDDEN = {"throw", "throws", "try", "catch", "finally", "synchronized",
        "assert", "import", "package", "native", "volatile", "transient", "hashCode", "toString", "Object",
        "Exception", "Thread", "->", "::", "Exact", "@", "var"};

    private static final Set<String> STATIC_TYPES = Set.of("int", "long", "boolean", "char", "java.lang.String");
    private static final Set<String> TYPES = Set.of("int", "int[]", "int[][]", "boolean");
    /** What is called on objects that are not of the program's own classes. */
    private static final Set<String> LIBRARY_CALLS = Set.of("length", "charAt", "abs", "max", "min", "bitCount",
            "arraycopy");
    private static final Pattern MAKES = Pattern.compile("\\bnew\\b|\\.clone\\(|\"\\s*\\+|\\+\\s*\"");
    private static final int MOST_LINES = 60;
    private static final int DEEPEST = 8;

    private static final Checks CHECKS = new Checks();

    public static void main(String[] args) throws Exception {
        face();
        String source = Files.readString(Path.of("src/main/java/LockedInByNext.java"));
        text(source);
        Map<String, String> bodies = bodies(withoutRemarks(source));
        lengths(bodies);
        madeOnce(bodies);
        depths(bodies);
        CHECKS.end("RulesTest");
    }

    private static void face() {
        CHECKS.part("face");
        Class<?> c = LockedInByNext.class;
        CHECKS.due("public and final", c.getModifiers(), Modifier.PUBLIC | Modifier.FINAL);
        Set<String> open = new TreeSet<>();
        Set<String> names = new TreeSet<>();
        for (Method m : c.getDeclaredMethods()) {
            if (Modifier.isPrivate(m.getModifiers())) {
                continue;
            }
            CHECKS.due(m + " is public alone", m.getModifiers(), Modifier.PUBLIC);
            CHECKS.due(m + " answers", m.getReturnType().getName(), "int");
            open.add(m.getName() + Arrays.toString(m.getParameterTypes()).replace('[', '(').replace(']', ')')
                    .replace(" ", ""));
            names.add(m.getName());
        }
        CHECKS.due("the methods", String.join(" ", open), FACE);
        int constructors = 0;
        for (Constructor<?> k : c.getDeclaredConstructors()) {
            constructors++;
            CHECKS.due("constructor", k.toString(), "public LockedInByNext()");
        }
        CHECKS.due("constructors", constructors, 1);
        members(c, names, true);
        for (Class<?> inside : c.getDeclaredClasses()) {
            CHECKS.due(inside + " is static", Modifier.isStatic(inside.getModifiers()) ? 1 : 0, 1);
            CHECKS.due(inside + " is not seen from outside",
                    inside.getModifiers() & (Modifier.PUBLIC | Modifier.PROTECTED), 0);
            members(inside, names, false);
        }
        CHECKS.due("at most twelve classes", c.getDeclaredClasses().length < 12 ? 1 : 0, 1);
        CHECKS.due("classes without a name or in a method", c.getNestMembers().length - 1,
                c.getDeclaredClasses().length);
    }

    private static void members(Class<?> c, Set<String> names, boolean outside) {
        int fields = 0;
        for (Field f : c.getDeclaredFields()) {
            int mods = f.getModifiers();
            if (outside) {
                CHECKS.due(f + " is private", mods & Modifier.PRIVATE, Modifier.PRIVATE);
            }
            String type = f.getType().getCanonicalName();
            if (Modifier.isStatic(mods)) {
                CHECKS.due(f + " is final", mods & Modifier.FINAL, Modifier.FINAL);
                CHECKS.due(f + " is of a type for constants", STATIC_TYPES.contains(type) ? 1 : 0, 1);
            } else {
                fields++;
                boolean own = type.startsWith("LockedInByNext.");
                CHECKS.due(f + " is of a type that may be used", own || TYPES.contains(type) ? 1 : 0, 1);
            }
        }
        CHECKS.due(c + " has at most twenty fields", fields <= 20 ? 1 : 0, 1);
        for (Method m : c.getDeclaredMethods()) {
            boolean borne = !Modifier.isPublic(m.getModifiers()) && names.contains(m.getName());
            CHECKS.due(m + " bears a name of the face", borne ? 1 : 0, 0);
            CHECKS.due(m + " takes at most seven", m.getParameterCount() <= 7 ? 1 : 0, 1);
        }
    }

    private static void text(String source) {
        CHECKS.part("text");
        for (int i = 0; i < source.length(); i++) {
            if (source.charAt(i) > 126) {
                CHECKS.due("a sign beyond 126 at " + i, source.charAt(i), 0);
            }
        }
        String code = withoutRemarks(source);
        for (String word : FORBIDDEN) {
            String at = Character.isLetter(word.charAt(0)) && !word.equals("Exact") && !word.equals("Exception")
                    ? "\\b" + word + "\\b" : Pattern.quote(word);
            CHECKS.due("\"" + word + "\" stands in the program", Pattern.compile(at).matcher(code).find() ? 1 : 0, 0);
        }
        Matcher library = Pattern.compile("\\b(Math|Integer|Long|System|Arrays|String)\\.(\\w+)").matcher(code);
        while (library.find()) {
            boolean allowed = Set.of("Math.abs", "Math.max", "Math.min", "Integer.bitCount", "System.arraycopy")
                    .contains(library.group());
            CHECKS.due(library.group() + " is of the library that may be used", allowed ? 1 : 0, 1);
        }
    }

    private static String withoutRemarks(String source) {
        return source.replaceAll("(?s)/\\*.*?\\*/", " ").replaceAll("//[^\n]*", " ");
    }

    /** Each method's and constructor's lines by its name; no two of the program bear the same one. */
    private static Map<String, String> bodies(String code) {
        CHECKS.part("methods");
        Map<String, String> bodies = new TreeMap<>();
        String head = "^( +)(?:(?:public|private|static) )*(?:[\\w\\[\\]]+ )?(\\w+)\\([^()]*\\) \\{\\n";
        Matcher m = Pattern.compile("(?m)" + head + "(?s:.*?)^\\1\\}$").matcher(code);
        while (m.find()) {
            CHECKS.due("another " + m.group(2), bodies.put(m.group(2), m.group()) == null ? 0 : 1, 0);
        }
        int made = 0;
        for (Class<?> c : LockedInByNext.class.getNestMembers()) {
            made += c.getDeclaredMethods().length + c.getDeclaredConstructors().length;
        }
        CHECKS.due("methods and constructors found in the text", bodies.size(), made);
        return bodies;
    }

    private static void lengths(Map<String, String> bodies) {
        for (Map.Entry<String, String> body : bodies.entrySet()) {
            CHECKS.due(body.getKey() + " is short", body.getValue().lines().count() <= MOST_LINES ? 1 : 0, 1);
        }
    }

    /** All rows are made in constructors: so 512 calls of an object need no more room than one. */
    private static void madeOnce(Map<String, String> bodies) {
        for (Map.Entry<String, String> body : bodies.entrySet()) {
            boolean constructor = Character.isUpperCase(body.getKey().charAt(0));
            boolean makes = MAKES.matcher(body.getValue()).find();
            CHECKS.due(body.getKey() + " makes an object", makes && !constructor ? 1 : 0, 0);
        }
    }

    private static void depths(Map<String, String> bodies) {
        for (String name : bodies.keySet()) {
            CHECKS.due("calls in " + name + " go too deep", depth(bodies, name, 1) <= DEEPEST ? 0 : 1, 0);
        }
    }

    /** How deep calls go; a call that comes back to itself goes deeper than any that may be. */
    private static int depth(Map<String, String> bodies, String name, int level) {
        int deepest = level;
        String body = bodies.get(name);
        Matcher call = Pattern.compile("\\b(\\w+)\\(").matcher(body.substring(body.indexOf('{')));
        while (call.find() && deepest <= DEEPEST) {
            if (bodies.containsKey(call.group(1))) {
                deepest = Math.max(deepest, depth(bodies, call.group(1), level + 1));
            } else {
                CHECKS.due(call.group(1) + " is of the library that may be used",
                        LIBRARY_CALLS.contains(call.group(1)) ? 1 : 0, 1);
            }
        }
        return deepest;
    }
}
