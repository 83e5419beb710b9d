import java.io.IOException;
import java.lang.reflect.Method;
import java.lang.reflect.Modifier;
import java.nio.file.Files;
import java.nio.file.Path;
import java.util.List;
import java.util.Set;
import java.util.TreeSet;
import java.util.regex.Matcher;
import java.util.regex.Pattern;

/** That the calls README.md shows answer what it says they do, and that it shows every call and names every test. */
public final class ReadmeTest {
    private static final Pattern CALL = Pattern.compile("lore\\.(\\w+)\\(([^)]*)\\); +// (-?\\d+)(\\D.*)?");
    private static final Pattern TEXT = Pattern.compile("for \\(char c : \"([^\"]*)\"\\.toCharArray\\(\\)\\) \\{");
    private static final int MOST_CALLS = 512;
    private static final Set<String> SHOWN = new TreeSet<>();
    private static BiscuitLore lore = null;
    private static String text = "";
    private static int calls = 0;
    private static int wrong = 0;

    private static void complain(int line, String what) {
        wrong++;
        System.out.println("README.md, line " + line + ": " + what);
    }

    /** Runs the Java that stands between fences, of which only the forms that this page needs are understood. */
    private static void runBlocks(List<String> lines) throws ReflectiveOperationException {
        boolean inside = false;
        for (int i = 0; i < lines.size(); i++) {
            String row = lines.get(i);
            if (row.startsWith("```")) inside = row.equals("```java");
            else if (inside) runRow(i + 1, row.trim());
        }
    }

    private static void runRow(int line, String row) throws ReflectiveOperationException {
        Matcher call = CALL.matcher(row);
        Matcher loop = TEXT.matcher(row);
        if (row.equals("BiscuitLore lore = new BiscuitLore();") && lore == null) {
            lore = new BiscuitLore();
        } else if (lore == null) {
            complain(line, "there is no object yet");
        } else if (call.matches()) {
            long due = Long.parseLong(call.group(3));
            long got = answer(line, call.group(1), call.group(2));
            if (got != due) complain(line, row + " but it answers " + got);
        } else if (loop.matches()) {
            text = loop.group(1);
        } else if (row.equals("lore.feed(c);")) {
            for (char c : text.toCharArray()) lore.feed(c);
            SHOWN.add("feed");
            calls += text.length();
            text = "";
        } else if (!row.equals("}") && !row.isEmpty()) {
            complain(line, "not understood: " + row);
        }
    }

    private static long answer(int line, String name, String told) throws ReflectiveOperationException {
        String[] words = told.isEmpty() ? new String[0] : told.split(", ");
        for (Method m : BiscuitLore.class.getDeclaredMethods()) {
            if (Modifier.isPublic(m.getModifiers()) && m.getName().equals(name) && m.getParameterCount() == words.length) {
                Object[] with = new Object[words.length];
                for (int i = 0; i < words.length; i++) with[i] = valueOf(m.getParameterTypes()[i], words[i]);
                SHOWN.add(name);
                calls++;
                return ((Number) m.invoke(lore, with)).longValue();
            }
        }
        complain(line, "there is no such call: " + name);
        return 0;
    }

    private static Object valueOf(Class<?> type, String word) {
        if (type == boolean.class) return Boolean.valueOf(word);
        return word.startsWith("'") ? word.charAt(1) : Integer.parseInt(word);
    }

    private static void seekCalls() {
        for (Method m : BiscuitLore.class.getDeclaredMethods()) {
            if (Modifier.isPublic(m.getModifiers()) && !SHOWN.contains(m.getName())) complain(0, "does not show " + m.getName());
        }
        if (calls > MOST_CALLS) complain(0, "shows " + calls + " calls of one object");
    }

    private static void seekTests(String page) throws IOException {
        try (var files = Files.list(Path.of("src/test/java"))) {
            for (Path file : files.toList()) {
                String name = file.getFileName().toString();
                if (name.endsWith("Test.java") && !page.contains("`src/test/java/" + name + "`")) complain(0, "does not name " + name);
            }
        }
        Matcher named = Pattern.compile("`((?:src|\\.\\./shared)/[\\w./]+)`").matcher(page);
        while (named.find()) {
            if (!Files.exists(Path.of(named.group(1)))) complain(0, "there is no " + named.group(1));
        }
    }

    public static void main(String[] args) throws IOException, ReflectiveOperationException {
        Path page = Path.of("README.md");
        runBlocks(Files.readAllLines(page));
        seekCalls();
        seekTests(Files.readString(page));
        System.out.println(wrong == 0 ? "the page shows what the class answers" : wrong + " rows are not as the class answers");
        if (wrong != 0) System.exit(1);
    }
}
