import java.lang.reflect.Constructor;
import java.lang.reflect.Field;
import java.lang.reflect.Method;
import java.lang.reflect.Modifier;
import java.nio.file.Files;
import java.nio.file.Path;
import java.util.Arrays;
import java.util.Set;
import java.util.TreeSet;
import java.util.regex.Matcher;
import java.util.regex.Pattern;

/** The face, and those rules of LANGUAGE.md that can be seen in the text of the program. */
public final class RulesTest {
    private static final String FACE = "all() breaking(int) by(int) cast(int,int) copies(int) copy() count(int) "
            + "fewest(int) fire(int,int) give(int,int) gone(int) image() judge() key(int,int) late() letter(int) "
            + "lose(int) lot(int,int,int) on() out(int) overslept() person(int,int) rings() row(int) seeds(int,int) "
            + "soonest(int) swap() town() wake(int,int) walk(int) watch(int)";
    private static final String[] FORBIDDEN = {"throw", "throws", "try", "catch", "finally", "synchronized",
        "assert", "import", "package", "native", "volatile", "transient", "hashCode", "toString", "Object",
        "Exception", "Thread", "->", "::", "Exact", "@", "var"};

    private static final Checks CHECKS = new Checks();

    public static void main(String[] args) throws Exception {
        face();
        text(Files.readString(Path.of("src/main/java/LockedInByNext.java")));
        CHECKS.end("RulesTest");
    }

    private static void face() {
        CHECKS.part("face");
        Class<?> c = LockedInByNext.class;
        CHECKS.due("public and final", c.getModifiers(), Modifier.PUBLIC | Modifier.FINAL);
        Set<String> open = new TreeSet<>();
        Set<String> names = new TreeSet<>();
        for (Method m : c.getDeclaredMethods()) {
            if (Modifier.isPrivate(m.getModifiers())) {
                continue;
            }
            CHECKS.due(m + " is public alone", m.getModifiers(), Modifier.PUBLIC);
            CHECKS.due(m + " answers", m.getReturnType().getName(), "int");
            open.add(m.getName() + Arrays.toString(m.getParameterTypes()).replace('[', '(').replace(']', ')')
                    .replace(" ", ""));
            names.add(m.getName());
        }
        CHECKS.due("the methods", String.join(" ", open), FACE);
        int constructors = 0;
        for (Constructor<?> k : c.getDeclaredConstructors()) {
            constructors++;
            CHECKS.due("constructor", k.toString(), "public LockedInByNext()");
        }
        CHECKS.due("constructors", constructors, 1);
        members(c, names, true);
        for (Class<?> inside : c.getDeclaredClasses()) {
            CHECKS.due(inside + " is static", Modifier.isStatic(inside.getModifiers()) ? 1 : 0, 1);
            members(inside, names, false);
        }
        CHECKS.due("at most twelve classes", c.getDeclaredClasses().length < 12 ? 1 : 0, 1);
    }

    private static void members(Class<?> c, Set<String> names, boolean outside) {
        int fields = 0;
        for (Field f : c.getDeclaredFields()) {
            int mods = f.getModifiers();
            if (outside) {
                CHECKS.due(f + " is private", mods & Modifier.PRIVATE, Modifier.PRIVATE);
            }
            if (Modifier.isStatic(mods)) {
                CHECKS.due(f + " is final", mods & Modifier.FINAL, Modifier.FINAL);
            } else {
                fields++;
            }
        }
        CHECKS.due(c + " has at most twenty fields", fields <= 20 ? 1 : 0, 1);
        for (Method m : c.getDeclaredMethods()) {
            boolean borne = !Modifier.isPublic(m.getModifiers()) && names.contains(m.getName());
            CHECKS.due(m + " bears a name of the face", borne ? 1 : 0, 0);
            CHECKS.due(m + " takes at most seven", m.getParameterCount() <= 7 ? 1 : 0, 1);
        }
    }

    private static void text(String source) {
        CHECKS.part("text");
        for (int i = 0; i < source.length(); i++) {
            if (source.charAt(i) > 126) {
                CHECKS.due("a sign beyond 126 at " + i, source.charAt(i), 0);
            }
        }
        String code = source.replaceAll("(?s)/\\*.*?\\*/", " ").replaceAll("//[^\n]*", " ");
        for (String word : FORBIDDEN) {
            String at = Character.isLetter(word.charAt(0)) && !word.equals("Exact") && !word.equals("Exception")
                    ? "\\b" + word + "\\b" : Pattern.quote(word);
            CHECKS.due("\"" + word + "\" stands in the program", Pattern.compile(at).matcher(code).find() ? 1 : 0, 0);
        }
        Matcher library = Pattern.compile("\\b(Math|Integer|Long|System|Arrays|String)\\.(\\w+)").matcher(code);
        while (library.find()) {
            boolean allowed = Set.of("Math.abs", "Math.max", "Math.min", "Integer.bitCount", "System.arraycopy")
                    .contains(library.group());
            CHECKS.due(library.group() + " is of the library that may be used", allowed ? 1 : 0, 1);
        }
    }
}
