import java.io.IOException;
import java.nio.file.Files;
import java.nio.file.Path;
import java.util.regex.Matcher;
import java.util.regex.Pattern;

/**
 * What the tests of the document's edges share. Each test begins with the document's own words, says(promise, words),
 * and its rows follow; the words are looked up in the document, and in the end no words of it may be without a test.
 */
final class Edges {
    static final int BAD = -1, STATE = -2, FULL = -3, NONE = -4;
    static final int LEAST = Integer.MIN_VALUE, GREATEST = Integer.MAX_VALUE;
    static final int TERMS = 0, PROMISES = 43;
    /** 160 bytes, 18 lines: as many FELLOWS, BISCUITS and QUESTIONS as there may be. */
    static final String ALL = "fellow0;fellow9;fellow1;fellow2;plain 0 99 0;law 9 0 3;arts 1 5 1;theology 2 4 2;law 3 20 3;"
            + "arts 4 19 3;damp9;bite20;ask0 0;ask99 9;ask1 1;ask2 2;ask3 3;ask3 4;";

    /** A call of which all is told but one number. */
    interface Call {
        long with(int v);
    }

    private static final String[] SECTIONS = new String[PROMISES + 1];
    private static final boolean[][] TOLD = new boolean[PROMISES + 1][];
    private static int wrong = 0;
    private static int rows = 0;
    private static int section = 0;
    private static int row = 0;
    private static String sentence = "";

    private Edges() {
    }

    static void readDocument(Path path) throws IOException {
        String all = Files.readString(path).replaceAll("(?m)^(```.*|=+)", "").replaceAll("\\s+", " ");
        SECTIONS[TERMS] = all.substring(all.indexOf("## Terms") + 8, all.indexOf("Ahead of the calls"));
        for (int n = 1; n <= PROMISES; n++) {
            Matcher m = Pattern.compile("## Promise " + n + ": \\w[^`]*`[^`]*`: ([^#]*)").matcher(all);
            SECTIONS[n] = m.find() ? m.group(1) : "";
        }
        for (int n = 0; n <= PROMISES; n++) TOLD[n] = new boolean[SECTIONS[n].length()];
    }

    static void says(int of, String words) {
        section = of;
        sentence = words;
        row = 0;
        int at = SECTIONS[of].indexOf(words);
        if (at < 0) complain("the document does not say so");
        for (int i = at; at >= 0 && i < at + words.length(); i++) TOLD[of][i] = true;
    }

    private static void complain(String what) {
        wrong++;
        System.out.println((section == TERMS ? "terms" : "promise " + section) + ", \"" + sentence + "\", row " + row + ": " + what);
    }

    static void due(long got, long want) {
        row++;
        rows++;
        if (got != want) complain("answered " + got + ", due is " + want);
    }

    /** One below the least, one above the greatest, and the ends of all ints are BAD. */
    static void outside(Call call, int least, int most) {
        due(call.with(least - 1), BAD);
        due(call.with(most + 1), BAD);
        due(call.with(LEAST), BAD);
        due(call.with(GREATEST), BAD);
    }

    /** The answers from a first number on. */
    static void inside(Call call, int first, long... answers) {
        for (int i = 0; i < answers.length; i++) due(call.with(first + i), answers[i]);
    }

    static void feedAll(BiscuitLore x, String text) {
        for (int i = 0; i < text.length(); i++) x.feed(text.charAt(i));
    }

    static BiscuitLore of(String text) {
        BiscuitLore x = new BiscuitLore();
        feedAll(x, text);
        if (text.length() > 160 || x.text() < 0) complain("the test's own text is refused: " + text);
        return x;
    }

    static String blanks(int n) {
        return " ".repeat(n);
    }

    /** What a text tells, so many DAYS later. */
    static BiscuitLore onDay(String text, int day) {
        BiscuitLore x = of(text);
        for (int d = day; d > 0; d -= 30) x.days(Math.min(30, d));
        if (x.rule(4) != day) complain("the test's own DAY is not " + day);
        return x;
    }

    private static void findUntold() {
        for (int n = 0; n <= PROMISES; n++) {
            StringBuilder untold = new StringBuilder();
            for (int i = 0; i < TOLD[n].length; i++) if (!TOLD[n][i]) untold.append(SECTIONS[n].charAt(i));
            section = n;
            sentence = untold.toString().trim();
            if (SECTIONS[n].isBlank() || sentence.matches("(?s).*\\w.*")) complain("these words have no test");
        }
    }

    static void finish() {
        findUntold();
        System.out.println(rows + " rows: " + (wrong == 0 ? "every sentence holds" : wrong + " are not as due"));
        if (wrong != 0) System.exit(1);
    }
}
