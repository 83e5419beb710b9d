import java.util.Random;

/** Long runs of calls by seeds, each call answered by BiscuitLore and by the Model: every two answers must be one. */
public final class ModelTest {
    private static final int RUNS = 700, CALLS = 300;
    private static final String[] WORDS = {"plain", "law", "arts", "theology", "fellow", "damp", "bite", "ask"};
    private static int wrong = 0;

    private final Random random;
    private final int run;
    private final BiscuitLore lore = new BiscuitLore();
    private final Model model = new Model();

    private ModelTest(int run) {
        this.run = run;
        this.random = new Random(run);
    }

    private void same(String call, long got, long due) {
        if (got != due) {
            wrong++;
            System.out.println("run " + run + ": " + call + " answered " + got + ", the model " + due);
        }
    }

    /** Mostly within its bounds, at times one beyond, seldom far off. */
    private int about(int least, int most) {
        int dice = random.nextInt(40);
        if (dice == 0) return least - 1;
        if (dice == 1) return most + 1;
        if (dice == 2) return least;
        if (dice == 3) return most;
        if (dice == 4 && random.nextInt(4) == 0) return random.nextBoolean() ? Integer.MIN_VALUE : Integer.MAX_VALUE;
        return least + random.nextInt(most - least + 1);
    }

    private String line() {
        String word = WORDS[random.nextInt(WORDS.length)];
        int fellow = random.nextInt(5) == 0 ? about(0, 3) : random.nextInt(2);
        switch (word) {
            case "fellow": return word + " " + Math.abs(about(0, 9) % 1000) + ";";
            case "damp": return word + " " + Math.abs(about(0, 9) % 1000) + ";";
            case "bite": return word + Math.abs(about(1, 20) % 1000) + " ;";
            case "ask": return word + " " + Math.abs(about(0, 60) % 1000) + " " + Math.abs(about(0, 4) % 1000) + ";";
            default: return word + " " + Math.abs(about(0, 4) % 1000) + " " + random.nextInt(100) + " " + Math.abs(fellow % 1000) + "; ";
        }
    }

    private String someText() {
        StringBuilder text = new StringBuilder(random.nextInt(3) == 0 ? "" : "fellow 2;fellow 1;");
        int lines = random.nextInt(11);
        for (int i = 0; i < lines; i++) text.append(line());
        if (random.nextInt(4) == 0 && text.length() > 0) {
            int at = random.nextInt(text.length());
            String signs = " ;;09azA?" + (char) 0 + (char) 127 + "1";
            char sign = signs.charAt(random.nextInt(signs.length()));
            if (random.nextBoolean()) text.setCharAt(at, sign);
            else text.insert(at, sign);
        }
        if (random.nextInt(6) == 0) text.setLength(random.nextInt(text.length() + 1));
        return text.toString();
    }

    private void tell(String text) {
        for (char c : text.toCharArray()) same("feed(" + (int) c + ")", lore.feed(c), model.feed(c));
        same("text of " + text, lore.text(), model.text());
        same("fault() of " + text, lore.fault(), model.fault());
    }

    /** All that can be asked of what there is, which tells what the call before changed, or did not. */
    private void compareAll(String after) {
        for (int what = -1; what < 8; what++) same(after + ": rule " + what, lore.rule(what), model.rule(what));
        for (int f = -1; f < 5; f++) {
            for (int what = -1; what < 6; what++) same(after + ": fellow " + f + " " + what, lore.fellow(f, what), model.fellow(f, what));
        }
        for (int b = -1; b < 7; b++) {
            for (int what = -1; what < 6; what++) same(after + ": biscuit " + b + " " + what, lore.biscuit(b, what), model.biscuit(b, what));
        }
        for (int i = -1; i < 7; i++) {
            for (int what = -1; what < 3; what++) same(after + ": question " + i + " " + what, lore.question(i, what), model.question(i, what));
        }
        for (int s = -1; s < 11; s++) same(after + ": knows " + s, lore.knows(s), model.knows(s));
        for (int what = -1; what < 7; what++) same(after + ": count " + what, lore.count(what), model.count(what));
        same(after + ": torn", lore.torn(), model.torn());
        same(after + ": fault", lore.fault(), model.fault());
    }

    private String change() {
        int a, b, c, d;
        String call;
        switch (random.nextInt(17)) {
            case 0:
                a = about(0, 127); call = "feed(" + a + ")";
                same(call, lore.feed(a), model.feed(a)); break;
            case 1:
                a = about(0, 3); call = "end(" + a + ")";
                same(call, lore.end(a), model.end(a)); break;
            case 2: case 3:
                a = about(0, 5); b = about(0, 3); c = b == 0 ? about(0, 3) : b == 1 ? about(0, 5) : b == 2 ? about(0, 99) : about(0, 2);
                call = "alter(" + a + ", " + b + ", " + c + ")";
                same(call, lore.alter(a, b, c), model.alter(a, b, c)); break;
            case 4:
                a = about(0, 3); b = about(0, 9); call = "diet(" + a + ", " + b + ")";
                same(call, lore.diet(a, b), model.diet(a, b)); break;
            case 5:
                a = about(0, 9); call = "damp(" + a + ")";
                same(call, lore.damp(a), model.damp(a)); break;
            case 6:
                a = about(1, 20); call = "bite(" + a + ")";
                same(call, lore.bite(a), model.bite(a)); break;
            case 7: case 8:
                a = about(0, random.nextInt(3) == 0 ? 99 : 12); b = about(0, random.nextInt(3) == 0 ? 9 : 4); call = "pose(" + a + ", " + b + ")";
                same(call, lore.pose(a, b), model.pose(a, b)); break;
            case 9:
                a = about(0, 6); call = "drop(" + a + ")";
                same(call, lore.drop(a), model.drop(a)); break;
            case 10: case 11:
                a = about(0, 3); b = about(0, 5); c = about(0, 99); d = about(0, 2);
                call = "bake(" + a + ", " + b + ", " + c + ", " + d + ")";
                same(call, lore.bake(a, b, c, d), model.bake(a, b, c, d)); break;
            case 12:
                a = random.nextInt(3) == 0 ? about(0, 30) : about(0, 3); call = "days(" + a + ")";
                same(call, lore.days(a), model.days(a)); break;
            case 13: case 14:
                a = about(0, 12); b = about(0, 2); c = about(0, 5); boolean is = random.nextBoolean();
                call = "see(" + a + ", " + b + ", " + c + ", " + is + ")";
                same(call, lore.see(a, b, c, is), model.see(a, b, c, is)); break;
            case 15:
                a = about(0, 6); call = "forget(" + a + ")";
                same(call, lore.forget(a), model.forget(a)); break;
            default:
                a = about(0, 1);
                if (random.nextBoolean()) {
                    call = "keep(" + a + ")";
                    same(call, lore.keep(a), model.keep(a));
                } else {
                    call = "back(" + a + ")";
                    same(call, lore.back(a), model.back(a));
                }
        }
        return call;
    }

    private String sheets() {
        int a = about(0, 3), b, c, d;
        String call;
        switch (random.nextInt(5)) {
            case 0:
                b = about(0, 2); c = random.nextInt(8) == 0 ? -about(0, 40) : about(0, 40);
                call = "sheet(" + a + ", " + b + ", " + c + ")";
                same(call, lore.sheet(a, b, c), model.sheet(a, b, c)); break;
            case 1:
                b = about(0, 39); c = random.nextInt(4) == 0 ? random.nextInt() : about(0, 3);
                call = "lay(" + a + ", " + b + ", " + c + ")";
                same(call, lore.lay(a, b, c), model.lay(a, b, c)); break;
            case 2:
                // four cells that make a biscuit, so that reading does not fail always
                b = 4 * random.nextInt(6); c = random.nextInt(100); d = random.nextInt(4) + 256 * random.nextInt(2);
                call = "lay(" + a + ", " + b + " ..)";
                same(call, lore.lay(a, b, d), model.lay(a, b, d));
                same(call, lore.lay(a, b + 2, c), model.lay(a, b + 2, c)); break;
            default:
                b = about(0, 2); c = random.nextInt(3) == 0 ? about(0, 40) : 4 * random.nextInt(4); d = about(0, random.nextInt(2) == 0 ? 10 : 3);
                call = "read(" + a + ", " + b + ", " + c + ", " + d + ")";
                same(call, lore.read(a, b, c, d), model.read(a, b, c, d));
        }
        return call;
    }

    private void query() {
        int a, b, c, d, e;
        switch (random.nextInt(18)) {
            case 0:
                a = about(0, 60); b = about(0, 3);
                same("runs(" + a + ", " + b + ")", lore.runs(a, b), model.runs(a, b)); break;
            case 1:
                a = about(0, 3); b = about(0, 60);
                same("ahead(" + a + ", " + b + ")", lore.ahead(a, b), model.ahead(a, b)); break;
            case 2:
                a = about(0, 9);
                same("lasts(" + a + ")", lore.lasts(a), model.lasts(a)); break;
            case 3:
                a = about(0, 3);
                same("starves(" + a + ")", lore.starves(a), model.starves(a)); break;
            case 4: case 5:
                a = about(0, 5); b = random.nextBoolean() ? about(0, 60) : about(0, 12);
                same("need(" + a + ", " + b + ")", lore.need(a, b), model.need(a, b)); break;
            case 6:
                a = about(0, 3); b = about(0, 1);
                same("thrift(" + a + ", " + b + ")", lore.thrift(a, b), model.thrift(a, b)); break;
            case 7:
                a = about(0, 5); b = about(0, 1);
                same("heir(" + a + ", " + b + ")", lore.heir(a, b), model.heir(a, b)); break;
            case 8: case 9:
                a = about(0, 1);
                same("swap(" + a + ")", lore.swap(a), model.swap(a)); break;
            case 10:
                a = random.nextBoolean() ? about(0, 60) : about(0, 9); b = about(0, 1);
                same("wise(" + a + ", " + b + ")", lore.wise(a, b), model.wise(a, b)); break;
            case 11:
                a = about(0, 1);
                same("chew(" + a + ")", lore.chew(a), model.chew(a)); break;
            case 12:
                a = about(0, 10); b = about(0, 1); c = about(0, 4); d = about(0, random.nextInt(4) == 0 ? 8 : 4); e = about(0, 1);
                same("luck(" + a + ", " + b + ", " + c + ", " + d + ", " + e + ")", lore.luck(a, b, c, d, e), model.luck(a, b, c, d, e)); break;
            case 13:
                a = about(0, 10); b = about(0, random.nextInt(4) == 0 ? 8 : 4); c = about(0, 1);
                same("mean(" + a + ", " + b + ", " + c + ")", lore.mean(a, b, c), model.mean(a, b, c)); break;
            case 14:
                a = about(0, 5);
                same("kinds(" + a + ")", lore.kinds(a), model.kinds(a)); break;
            case 15:
                a = about(0, 5);
                same("subjects(" + a + ")", lore.subjects(a), model.subjects(a)); break;
            case 16:
                a = about(0, 5); b = about(0, 1);
                same("ask(" + a + ", " + b + ")", lore.ask(a, b), model.ask(a, b)); break;
            default:
                a = random.nextInt(); b = about(1, random.nextBoolean() ? 60 : 10); c = about(0, 1);
                same("drift(" + a + ", " + b + ", " + c + ")", lore.drift(a, b, c), model.drift(a, b, c));
        }
    }

    private void go() {
        compareAll("new");
        for (int i = 0; i < CALLS && wrong < 20; i++) {
            int dice = random.nextInt(60);
            if (dice < 2) {
                same("end(0)", lore.end(0), model.end(0));
                tell(someText());
                compareAll("text");
            } else if (dice < 22) {
                compareAll(change());
            } else if (dice < 32) {
                compareAll(sheets());
            } else {
                query();
                if (dice < 36) compareAll("query");
            }
        }
    }

    public static void main(String[] args) {
        for (int run = 1; run <= RUNS && wrong < 20; run++) new ModelTest(run).go();
        System.out.println(wrong == 0 ? "all answers are the model's" : wrong + " answers are not the model's");
        if (wrong != 0) System.exit(1);
    }
}
