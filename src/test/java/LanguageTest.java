import java.lang.reflect.Constructor;
import java.lang.reflect.Field;
import java.lang.reflect.Method;
import java.lang.reflect.Modifier;
import java.nio.file.Files;
import java.nio.file.Path;
import java.util.ArrayList;
import java.util.Arrays;
import java.util.List;
import java.util.Set;
import java.util.TreeSet;
import java.util.regex.Matcher;
import java.util.regex.Pattern;

/** That the class has the document's face and no other, and keeps to those rules of LANGUAGE.md that can be looked up. */
public final class LanguageTest {
    private static final String[] BANNED = {
        "throw", "throws", "try", "catch", "finally", "synchronized", "assert", "import", "package", "Object", "Exception",
        "volatile", "transient", "native", "protected", "System.out", "Thread", "Random", "hashCode", "toString",
        "[A-Za-z]+Exact", "->", "::", "@"};
    private static final Set<String> STATIC_TYPES = Set.of("int", "long", "boolean", "char", "java.lang.String", "[I", "[J", "[C", "[B");
    private static int wrong = 0;

    private static void expect(boolean is, String what) {
        if (!is) {
            wrong++;
            System.out.println(what);
        }
    }

    private static String shape(Method m) {
        StringBuilder s = new StringBuilder(m.getReturnType().getName() + " " + m.getName() + "(");
        for (Class<?> p : m.getParameterTypes()) s.append(p.getName()).append(',');
        if (m.getParameterCount() > 0) s.setLength(s.length() - 1);
        return s + ")";
    }

    private static String readDocument() throws java.io.IOException {
        return Files.readString(Path.of("../shared/DOC.md"));
    }

    /** The methods of the document's face, as shape() tells them. */
    private static Set<String> documentFace() throws java.io.IOException {
        Set<String> all = new TreeSet<>();
        Matcher m = Pattern.compile("(?m)^    public (\\w+ \\w+)\\((.*)\\);$").matcher(readDocument());
        while (m.find()) all.add(m.group(1) + "(" + m.group(2).replaceAll("(\\w+) \\w+(, )?", "$1,").replaceAll(",$", "") + ")");
        return all;
    }

    private static void face() throws java.io.IOException {
        int mods = BiscuitLore.class.getModifiers();
        expect(Modifier.isPublic(mods) && Modifier.isFinal(mods), "the class is not public and final");
        Set<String> open = new TreeSet<>();
        Set<String> names = new TreeSet<>();
        for (Method m : BiscuitLore.class.getDeclaredMethods()) {
            if (Modifier.isPublic(m.getModifiers())) {
                open.add(shape(m));
                names.add(m.getName());
                expect(!Modifier.isStatic(m.getModifiers()), "static: " + shape(m));
            } else {
                expect(Modifier.isPrivate(m.getModifiers()), "neither public nor private: " + shape(m));
            }
        }
        Set<String> due = documentFace();
        expect(due.size() == 42, "the document's face is not understood: " + due);
        expect(open.equals(due), "the face is not the document's: " + open);
        Set<String> constants = new TreeSet<>();
        for (Field f : BiscuitLore.class.getDeclaredFields()) {
            if (Modifier.isPublic(f.getModifiers())) constants.add(f.getName());
            else expect(Modifier.isPrivate(f.getModifiers()), "neither public nor private: " + f);
        }
        expect(constants.equals(Set.of("BAD", "STATE", "FULL", "NONE")), "constants: " + constants);
        Constructor<?>[] made = BiscuitLore.class.getDeclaredConstructors();
        expect(made.length == 1 && Modifier.isPublic(made[0].getModifiers()) && made[0].getParameterCount() == 0, "the constructor");
        for (Class<?> c : classes()) {
            for (Method m : c.getDeclaredMethods()) {
                expect(Modifier.isPublic(m.getModifiers()) && c == BiscuitLore.class || !names.contains(m.getName()),
                        "bears the name of a public one: " + c.getSimpleName() + "." + m.getName());
            }
        }
    }

    private static List<Class<?>> classes() {
        List<Class<?>> all = new ArrayList<>();
        all.add(BiscuitLore.class);
        all.addAll(Arrays.asList(BiscuitLore.class.getDeclaredClasses()));
        return all;
    }

    private static void classesInside() {
        expect(classes().size() <= 12, "too many classes");
        for (Class<?> c : classes()) {
            if (c != BiscuitLore.class) {
                expect(Modifier.isStatic(c.getModifiers()) && !Modifier.isPublic(c.getModifiers()), c + " is not static, or public");
            }
            int own = 0;
            for (Field f : c.getDeclaredFields()) {
                if (Modifier.isStatic(f.getModifiers())) {
                    expect(Modifier.isFinal(f.getModifiers()) && STATIC_TYPES.contains(f.getType().getName()), "static: " + f);
                } else {
                    own++;
                }
            }
            expect(own <= 20, c + " has " + own + " fields");
            for (Method m : c.getDeclaredMethods()) {
                expect(m.getParameterCount() <= 7, "too many parameters: " + m);
                expect(!m.isSynthetic(), "made by the compiler: " + m);
            }
        }
    }

    /** That what the document says ahead of some calls stands ahead of them, and that they stand in its order. */
    private static void order() throws java.io.IOException {
        String text = Files.readString(Path.of("src/main/java/BiscuitLore.java"));
        Matcher m = Pattern.compile("Ahead of the calls (.*) the interface says: (---- .*)\\.").matcher(readDocument());
        int at = 0;
        int parts = 0;
        while (m.find()) {
            parts++;
            at = placeBehind(text, at, "\n    // " + m.group(2) + "\n");
            for (String call : m.group(1).replace("`", "").split(", ")) {
                at = placeBehind(text, at, " " + call + "(");
            }
        }
        expect(parts == 8, "the document's parts are not understood: " + parts);
    }

    private static int placeBehind(String text, int from, String words) {
        boolean isCall = words.endsWith("(");
        Matcher m = Pattern.compile((isCall ? "\n    public (int|long)" : "") + Pattern.quote(words)).matcher(text);
        boolean found = m.find(from);
        expect(found, "does not stand in the document's order: " + words.trim());
        return found ? m.end() : from;
    }

    private static void source() throws java.io.IOException {
        String text = Files.readString(Path.of("src/main/java/BiscuitLore.java"));
        for (char c : text.toCharArray()) expect(c == '\n' || c >= ' ' && c < 127, "a sign " + (int) c);
        String code = text.replaceAll("(?s)/\\*.*?\\*/", "").replaceAll("//[^\n]*", "").replaceAll("\"[^\"\n]*\"", "\"\"");
        for (String word : BANNED) {
            String sought = Character.isLetter(word.charAt(0)) || word.charAt(0) == '[' ? "\\b" + word + "\\b" : word;
            Matcher m = Pattern.compile(sought).matcher(code);
            expect(!m.find(), "stands in the code: " + word);
        }
        int start = 0;
        int at = 0;
        for (String line : text.split("\n")) {
            at++;
            expect(line.length() <= 120, "line " + at + " is too long");
            if (line.matches(" {4}( {4})?[a-zA-Z].*\\) \\{")) start = at;
            if (line.matches(" {4}( {4})?\\}") && start > 0) {
                expect(at - start <= 60, "the method of line " + start + " is too long");
                start = 0;
            }
        }
    }

    public static void main(String[] args) throws java.io.IOException {
        face();
        classesInside();
        order();
        source();
        System.out.println(wrong == 0 ? "the rules are kept" : wrong + " rules are not kept");
        if (wrong != 0) System.exit(1);
    }
}
