import java.io.IOException;
import java.lang.reflect.Constructor;
import java.lang.reflect.Field;
import java.lang.reflect.Method;
import java.lang.reflect.Modifier;
import java.nio.file.Files;
import java.nio.file.Path;
import java.util.ArrayList;
import java.util.Collections;
import java.util.HashSet;
import java.util.List;
import java.util.Set;
import java.util.regex.Matcher;
import java.util.regex.Pattern;

/** The public face is just the document's, and the source keeps to what of LANGUAGE.md can be seen in its letters. */
final class FaceTest {
    private static final String[] FACE = {"traveller 3", "of 2", "wears 2", "stones 1", "type 1", "bridge 0", "count 1",
        "days 1", "list 1", "mend 2", "flood 1", "drift 1", "undo 0", "seed 1", "ahead 2", "then 2", "hole 0", "first 1",
        "wise 2", "more 1", "less 1", "stands 1", "bears 1", "floods 2", "image 0", "restore 0", "lists 6", "seen 7",
        "film 5", "sheet 3", "drop 1", "item 4", "copy 5"};
    private static final String[] CONSTANTS = {"BAD", "NOT", "FULL", "NONE", "NULL", "CAST", "INDEX", "SIZE"};
    private static final int[] VALUES = {-1, -2, -3, -4, -11, -12, -13, -14};
    private static final String SOURCE = "src/main/java/RefusedStones.java";
    private static final String[] BANNED = {"\\bimport\\b", "\\bpackage\\b", "->", "::", "\\bcatch\\b", "\\bthrow\\b",
        "\\bfinally\\b", "\\bsynchronized\\b", "\\bassert\\b", "\\bstatic\\s*\\{", "\\bException\\b", "\\bThrowable\\b",
        "\\bequals\\s*\\(", "\\bhashCode\\b", "\\btoString\\b", "\\bSystem\\.(?!arraycopy)", "\\bMath\\.\\w+Exact\\b",
        "\\bThread\\b", "\\bRandom\\b", "while\\s*\\(true\\)", "for\\s*\\(\\s*;\\s*;"};

    private FaceTest() {
    }

    public static void main(String[] args) throws IllegalAccessException, IOException {
        face();
        constants();
        noPrivateNamesake();
        language();
        Checks.end();
    }

    private static void face() {
        Checks.promise("the public face");
        int mods = RefusedStones.class.getModifiers();
        Checks.due("public and final", Modifier.isPublic(mods) && Modifier.isFinal(mods));
        Set<String> open = new HashSet<>();
        for (Method m : RefusedStones.class.getDeclaredMethods()) {
            if (!Modifier.isPrivate(m.getModifiers()) && !m.isSynthetic()) {
                open.add(m.getName() + " " + m.getParameterCount());
                Checks.due(m.getName() + " is public, answers an int, throws nothing", Modifier.isPublic(m.getModifiers())
                    && !Modifier.isStatic(m.getModifiers()) && m.getReturnType() == int.class
                    && m.getExceptionTypes().length == 0);
                dueParameters(m);
            }
        }
        Checks.due("the methods are the document's", open.equals(new HashSet<>(List.of(FACE))));
        Constructor<?>[] made = RefusedStones.class.getDeclaredConstructors();
        Checks.due("one constructor", made.length == 1 && Modifier.isPublic(made[0].getModifiers())
            && made[0].getParameterCount() == 0);
    }

    private static void dueParameters(Method m) {
        Class<?>[] types = m.getParameterTypes();
        for (int p = 0; p < types.length; p++) {
            boolean isLong = m.getName().equals("item") && p == 3;
            Checks.due(m.getName() + " parameter " + p, types[p] == (isLong ? long.class : int.class));
        }
    }

    private static void constants() throws IllegalAccessException {
        Checks.promise("the constants");
        int open = 0;
        for (Field f : RefusedStones.class.getDeclaredFields()) {
            open += Modifier.isPrivate(f.getModifiers()) || f.isSynthetic() ? 0 : 1;
        }
        Checks.due("open fields", open, CONSTANTS.length);
        for (int c = 0; c < CONSTANTS.length; c++) {
            try {
                Field f = RefusedStones.class.getField(CONSTANTS[c]);
                Checks.due(CONSTANTS[c], f.getInt(null), VALUES[c]);
                Checks.due(CONSTANTS[c] + " is final", Modifier.isFinal(f.getModifiers()));
            } catch (NoSuchFieldException e) {
                Checks.due(CONSTANTS[c] + " is there", false);
            }
        }
    }

    private static void noPrivateNamesake() {
        Checks.promise("LANGUAGE.md rules 1, 11: names, classes, fields");
        Set<String> face = new HashSet<>();
        for (String f : FACE) {
            face.add(f.split(" ")[0]);
        }
        List<Class<?>> all = new ArrayList<>(List.of(RefusedStones.class));
        Collections.addAll(all, RefusedStones.class.getDeclaredClasses());
        Checks.due("some twelve classes", all.size() <= 12);
        for (Class<?> c : all) {
            int fields = 0;
            for (Method m : c.getDeclaredMethods()) {
                Checks.due(c.getName() + "." + m.getName() + " is no namesake", c == RefusedStones.class
                    && Modifier.isPublic(m.getModifiers()) || m.isSynthetic() || !face.contains(m.getName()));
                Checks.due(m.getName() + " parameters", m.getParameterCount() <= 7);
            }
            for (Field f : c.getDeclaredFields()) {
                boolean isStatic = Modifier.isStatic(f.getModifiers());
                fields += isStatic ? 0 : 1;
                Checks.due(f.getName() + ": what is static is final", !isStatic || Modifier.isFinal(f.getModifiers()));
            }
            Checks.due(c.getName() + " has some twenty fields", fields <= 20);
            Checks.due(c.getName() + " is static", c == RefusedStones.class || Modifier.isStatic(c.getModifiers()));
        }
    }

    private static void language() throws IOException {
        Checks.promise("LANGUAGE.md: what the source does without");
        String source = Files.readString(Path.of(SOURCE)).replaceAll("(?s)/\\*.*?\\*/", "").replaceAll("//[^\n]*", "");
        for (String banned : BANNED) {
            Matcher m = Pattern.compile(banned).matcher(source);
            Checks.due("no " + banned, !m.find());
        }
        int depth = 0;
        int lines = 0;
        for (String line : source.split("\n")) {
            lines = line.matches(" {4,8}(?!class|private static final class)\\S.*\\) \\{") ? 0 : lines + 1;
            depth = Math.max(depth, line.matches("\\s*\\}?") ? 0 : lines);
        }
        Checks.due("methods of some sixty lines", depth <= 60);
        for (int i = 0; i < source.length(); i++) {
            Checks.due("signs 1 to 127", source.charAt(i) < 128);
        }
    }
}
