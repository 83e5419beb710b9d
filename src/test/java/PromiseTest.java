/** For each promise of the document what it says by ordinary numbers, at its edges and by wrong ones, worked out by hand. */
public final class PromiseTest {
    private static final int BAD = -1, STATE = -2, FULL = -3, NONE = -4;
    private static final int FAR = Integer.MAX_VALUE, DEEP = Integer.MIN_VALUE;
    private static final String HALL = "fellow 3;fellow 2;plain 1 30 0;law 2 40 0;arts 3 25 1;theology 1 50 1;"
            + "damp 4;bite 6;ask 3 1;ask 8 2;ask 12 3;";
    // DAMP 2, so that each loses 1 a DAY; behind DAYS 0, 1, 2, 3, 4: 10 9, 5 8, 0 7, 0 2, 0 0
    private static final String PAIR = "fellow 4;plain 1 10 0;plain 2 9 0;ask 1 1;ask 2 1;ask 2 2;ask 3 2;";

    private static int wrong = 0;
    private static int promise = 0;
    private static int row = 0;

    private static void promise(int number) {
        promise = number;
        row = 0;
    }

    private static void due(long got, long want) {
        row++;
        if (got != want) {
            wrong++;
            System.out.println("promise " + promise + ", row " + row + ": answered " + got + ", due is " + want);
        }
    }

    private static void feedAll(BiscuitLore x, String text) {
        for (char c : text.toCharArray()) x.feed(c);
    }

    private static BiscuitLore of(String text) {
        BiscuitLore x = new BiscuitLore();
        feedAll(x, text);
        int lines = x.text();
        if (lines < 0) {
            wrong++;
            System.out.println("promise " + promise + ": the test's own text is refused: " + text);
        }
        return x;
    }

    public static void main(String[] args) {
        newObject();
        tape();
        text();
        faults();
        whatThereIs();
        changes();
        days();
        runs();
        ends();
        need();
        thriftAndHeir();
        swapAndWise();
        chew();
        odds();
        seen();
        asking();
        drift();
        images();
        sheets();
        reading();
        counts();
        System.out.println(wrong == 0 ? "all promises hold" : wrong + " answers are not as due");
        if (wrong != 0) System.exit(1);
    }

    private static void newObject() {
        promise(1);
        BiscuitLore x = new BiscuitLore();
        int[] rules = {0, 0, 2, 5, 0, 0, 0};
        for (int what = 0; what <= 6; what++) due(x.rule(what), rules[what]);
        int[] counts = {0, 0, 0, NONE, 0, 0};
        for (int what = 0; what <= 5; what++) due(x.count(what), counts[what]);
        due(x.fault(), 0);
        due(x.torn(), 0);
        due(x.fellow(0, 0), BAD);
        due(x.biscuit(0, 0), BAD);
        due(x.question(0, 0), BAD);
        due(x.back(0), STATE);
        due(x.back(1), STATE);
        for (int k = 0; k <= 3; k++) due(x.lay(k, 0, 1), -11);
        due(BiscuitLore.BAD, BAD);
        due(BiscuitLore.STATE, STATE);
        due(BiscuitLore.FULL, FULL);
        due(BiscuitLore.NONE, NONE);
    }

    private static void tape() {
        promise(2);
        BiscuitLore x = new BiscuitLore();
        due(x.feed(-1), BAD);
        due(x.feed(128), BAD);
        due(x.feed(FAR), BAD);
        due(x.feed(DEEP), BAD);
        due(x.feed(0), 1);
        due(x.feed(127), 2);
        for (int n = 3; n <= 160; n++) due(x.feed(32), n);
        due(x.feed(32), FULL);
        due(x.feed(128), BAD);
        due(x.count(2), 160);
        promise(3);
        due(x.end(161), BAD);
        due(x.end(160), 160);
        due(x.end(-1), BAD);
        due(x.end(2), 160);
        due(x.end(3), BAD);
        due(x.end(0), 2);
        due(x.end(0), 0);
        due(x.end(1), BAD);
        feedAll(x, "fellow 7;gull");
        due(x.end(9), 13);
        due(x.text(), 1);
        due(x.fellow(0, 0), 7);
    }

    private static void text() {
        promise(4);
        BiscuitLore x = of(HALL);
        due(x.text(), 0);
        due(x.rule(0), 0);
        due(x.rule(1), 0);
        due(x.rule(2), 2);
        due(x.rule(3), 5);
        due(x.count(5), 0);
        feedAll(x, HALL);
        due(x.text(), 11);
        due(x.count(2), 0);
        x.diet(0, 9);
        x.days(30);
        due(x.fellow(0, 3) > 0 ? 1 : 0, 1);
        x.see(1, 0, 1, true);
        x.keep(0);
        x.keep(1);
        feedAll(x, "fellow 1;gull");
        due(x.text(), -19);
        due(x.count(2), 0);
        due(x.rule(0), 2);
        due(x.rule(4), 30);
        due(x.count(0), 1);
        due(x.count(1), 2);
        feedAll(x, "fellow 5;");
        due(x.text(), 1);
        due(x.rule(4), 0);
        due(x.fellow(0, 0), 5);
        due(x.fellow(0, 3), 0);
        due(x.rule(2), 2);
        due(x.rule(3), 5);
        due(x.count(0), 0);
        due(x.count(1), 0);
        due(x.back(0), STATE);
        StringBuilder whole = new StringBuilder("fellow 1;");
        while (whole.length() < 160) whole.append(' ');
        feedAll(x, whole.toString());
        due(x.text(), 1);
    }

    private static void fault(String text, int answer, int fault) {
        BiscuitLore x = new BiscuitLore();
        feedAll(x, text);
        promise = 4;
        due(x.text(), answer);
        promise = 5;
        due(x.fault(), fault);
        due(x.count(2), 0);
    }

    private static void faults() {
        promise(5);
        fault("", 0, 0);
        fault("   ", 0, 0);
        fault("fellow3;", 1, 0);
        fault(" fellow 03 ; damp 0;bite20;", 3, 0);
        fault("bite 1;", 1, 0);
        fault("plain 9 99 0;law 0 00 3;fellow 0;fellow 9;fellow 1;fellow 1;", 6, 0);
        fault("ask 99 9;ask 0 0;", 2, 0);
        fault("Fellow 1;", -10, 1);
        fault("fellow 1;A", -19, 1);
        fault("fellow 1,", -18, 1);
        fault("fellow\t1;", -16, 1);
        fault("fellow 1;" + (char) 0, -19, 1);
        fault("fellow 100;", -17, 1);
        fault("fellow 000;", -17, 1);
        fault("fellow 1 100", -19, 1);
        fault("plain 1 1 0 {", -22, 1);
        fault("100", -10, 1);
        fault("fellow 10?", -17, 3);
        fault("fellow", -16, 2);
        fault("fellow  ", -18, 2);
        fault("fellow 1", -18, 2);
        fault("plain 1 1", -19, 2);
        fault(" ;", -11, 2);
        fault("12;", -10, 2);
        fault("gull;", -10, 2);
        fault("fellows 1;", -10, 2);
        fault("fello 1;", -10, 2);
        fault("plainlaw 1 1 1;", -10, 2);
        fault("fellow damp", -17, 2);
        fault("fellow 1 damp 1;", -19, 2);
        fault("fellow 1;;", -19, 2);
        fault("plain 1 1;", -19, 2);
        fault("law 1 1 1 1;", -20, 2);
        fault("ask 1;", -15, 2);
        fault("ask 1 1 1;", -18, 2);
        fault("damp 1 1;", -17, 2);
        fault("fellow 10;", -17, 3);
        fault("damp 10", -15, 3);
        fault("plain 10 100", -16, 3);
        fault("arts 10 1 0;", -15, 3);
        fault("law 1 1 4", -18, 3);
        for (String kind : new String[] {"plain", "law", "arts", "theology"}) {
            int at = kind.length();
            fault(kind + " 9 99 3;fellow 1;fellow 1;fellow 1;fellow 1;", 5, 0);
            fault(kind + " 10 99 3;", -11 - at, 3);
            fault(kind + " 9 100 3;", -13 - at, 1);
            fault(kind + " 9 99 4;", -16 - at, 3);
        }
        fault("ask 99 10;", -17, 3);
        fault("bite 0;", -15, 3);
        fault("bite 21;", -15, 3);
        fault("damp 1;damp", -17, 4);
        fault("bite 5; bite 5;", -18, 4);
        fault("bite 5;damp 5;bite", -24, 4);
        fault("fellow 1;fellow 1;fellow 1;fellow 1;fellow", -46, 5);
        fault("law 1 1 0;arts 1 1 0;law 1 1 0;arts 1 1 0;law 1 1 0;law 1 1 0;theology", -72, 5);
        fault("ask 1 1;ask 1 1;ask 1 1;ask 1 1;ask 1 1;ask 1 1;ask 1", -58, 5);
        fault("law 1 1 0;", -20, 6);
        fault("law 1 1 0;fellow 1;", 2, 0);
        fault("law 1 1 1;fellow 1; ", -30, 6);
        fault("law 1 1 3;gull", -20, 2);
        BiscuitLore x = of("fellow 1;");
        feedAll(x, "gull");
        due(x.text(), -10);
        due(x.fault(), 2);
        due(x.text(), 0);
        due(x.fault(), 0);
    }

    private static void whatThereIs() {
        promise(6);
        BiscuitLore x = of(HALL);
        int[] rules = {2, 4, 4, 6, 0, 145, 14};
        for (int what = 0; what <= 6; what++) due(x.rule(what), rules[what]);
        due(x.rule(7), BAD);
        due(x.rule(-1), BAD);
        promise(7);
        int[][] fellows = {{3, 6, 70, 0, 3}, {2, 10, 75, 0, 12}};
        for (int f = 0; f < 2; f++) for (int what = 0; what <= 4; what++) due(x.fellow(f, what), fellows[f][what]);
        due(x.fellow(2, 0), BAD);
        due(x.fellow(-1, 0), BAD);
        due(x.fellow(0, 5), BAD);
        due(x.fellow(0, -1), BAD);
        promise(8);
        int[][] biscuits = {{0, 1, 30, 0, 2}, {1, 2, 40, 0, 1}, {2, 3, 25, 1, 3}, {3, 1, 50, 1, 6}};
        for (int b = 0; b < 4; b++) for (int what = 0; what <= 4; what++) due(x.biscuit(b, what), biscuits[b][what]);
        due(x.biscuit(4, 0), BAD);
        due(x.biscuit(-1, 0), BAD);
        due(x.biscuit(0, 5), BAD);
        due(x.biscuit(0, -1), BAD);
        x.damp(9);
        int[] wet = {4, 2, 5, 10};
        for (int b = 0; b < 4; b++) due(x.biscuit(b, 4), wet[b]);
        x.damp(3);
        int[] fair = {1, 0, 2, 4};
        for (int b = 0; b < 4; b++) due(x.biscuit(b, 4), fair[b]);
        x.alter(3, 2, 3);
        due(x.biscuit(3, 4), 3);
        x.alter(3, 2, 0);
        due(x.biscuit(3, 4), 0);
        x.damp(0);
        int[] dry = {0, 0, 1, 0};
        for (int b = 0; b < 4; b++) due(x.biscuit(b, 4), dry[b]);
        promise(9);
        due(x.question(0, 0), 3);
        due(x.question(0, 1), 1);
        due(x.question(2, 0), 12);
        due(x.question(2, 1), 3);
        due(x.question(3, 0), BAD);
        due(x.question(-1, 0), BAD);
        due(x.question(0, 2), BAD);
        due(x.question(0, -1), BAD);
        promise(10);
        x = of(HALL);
        due(x.knows(1), 3);
        due(x.knows(2), 1);
        due(x.knows(3), 2);
        due(x.knows(0), 0);
        due(x.knows(9), 0);
        due(x.knows(10), BAD);
        due(x.knows(-1), BAD);
        x.alter(0, 2, 6);
        due(x.knows(1), 3);
        x.alter(0, 2, 5);
        due(x.knows(1), 2);
    }

    private static void changes() {
        promise(11);
        BiscuitLore x = of(HALL);
        due(x.alter(0, 0, 3), 0);
        due(x.alter(0, 0, 4), BAD);
        due(x.alter(0, 0, -1), BAD);
        due(x.alter(0, 1, 9), 1);
        due(x.alter(0, 1, 10), BAD);
        due(x.alter(0, 2, 99), 30);
        due(x.alter(0, 2, 100), BAD);
        due(x.alter(0, 2, -1), BAD);
        due(x.alter(0, 3, 1), 0);
        due(x.alter(0, 3, 2), BAD);
        due(x.alter(0, 4, 0), BAD);
        due(x.alter(0, -1, 0), BAD);
        due(x.alter(4, 0, 0), BAD);
        due(x.alter(-1, 0, 0), BAD);
        int[] is = {3, 9, 99, 1};
        for (int what = 0; what <= 3; what++) due(x.biscuit(0, what), is[what]);
        promise(12);
        due(x.diet(1, 9), 2);
        due(x.diet(1, 0), 9);
        due(x.diet(1, 10), BAD);
        due(x.diet(1, -1), BAD);
        due(x.diet(2, 1), BAD);
        due(x.diet(-1, 1), BAD);
        due(x.fellow(1, 0), 0);
        promise(13);
        due(x.damp(9), 4);
        due(x.damp(0), 9);
        due(x.damp(10), BAD);
        due(x.damp(-1), BAD);
        due(x.rule(2), 0);
        promise(14);
        due(x.bite(20), 6);
        due(x.bite(1), 20);
        due(x.bite(0), BAD);
        due(x.bite(21), BAD);
        due(x.rule(3), 1);
        promise(15);
        due(x.pose(100, 0), BAD);
        due(x.pose(-1, 0), BAD);
        due(x.pose(0, 10), BAD);
        due(x.pose(0, -1), BAD);
        due(x.pose(99, 9), 4);
        due(x.pose(0, 0), 5);
        due(x.pose(0, 0), 6);
        due(x.pose(0, 0), FULL);
        due(x.pose(100, 0), BAD);
        due(x.question(3, 0), 99);
        due(x.question(3, 1), 9);
        promise(16);
        due(x.drop(7), BAD);
        due(x.drop(-1), BAD);
        due(x.drop(6), 6);
        due(x.drop(2), 6);
        due(x.drop(3), BAD);
        due(x.question(1, 0), 8);
        due(x.question(2, 0), BAD);
        due(x.drop(0), 2);
        promise(17);
        due(x.bake(4, 0, 0, 0), BAD);
        due(x.bake(-1, 0, 0, 0), BAD);
        due(x.bake(0, 10, 0, 0), BAD);
        due(x.bake(0, -1, 0, 0), BAD);
        due(x.bake(0, 0, 100, 0), BAD);
        due(x.bake(0, 0, -1, 0), BAD);
        due(x.bake(0, 0, 0, 2), BAD);
        due(x.bake(0, 0, 0, -1), BAD);
        due(x.bake(3, 9, 99, 1), 5);
        due(x.bake(0, 0, 0, 0), 6);
        due(x.bake(0, 0, 0, 0), FULL);
        due(x.bake(0, 0, 0, 2), BAD);
        int[] baked = {3, 9, 99, 1};
        for (int what = 0; what <= 3; what++) due(x.biscuit(4, what), baked[what]);
        due(new BiscuitLore().bake(0, 0, 0, 0), BAD);
    }

    private static void days() {
        promise(18);
        BiscuitLore x = of(PAIR);
        due(x.days(-1), BAD);
        due(x.days(31), BAD);
        due(x.days(0), 0);
        due(x.days(1), 4);
        due(x.biscuit(0, 2), 5);
        due(x.biscuit(1, 2), 8);
        due(x.days(2), 8);
        due(x.biscuit(0, 2), 0);
        due(x.biscuit(1, 2), 2);
        due(x.fellow(0, 3), 0);
        due(x.days(1), 1);
        due(x.fellow(0, 3), 1);
        due(x.rule(4), 4);
        due(x.days(30), 0);
        due(x.fellow(0, 3), 31);
        due(x.count(5), 4);
        x = of("fellow 1;fellow 0;");
        for (int i = 1; i <= 33; i++) due(x.days(30), 0);
        due(x.days(10), FULL);
        due(x.days(31), BAD);
        due(x.rule(4), 990);
        due(x.days(9), 0);
        due(x.days(0), 0);
        due(x.days(1), FULL);
        due(x.fellow(0, 3), 999);
        due(x.fellow(1, 3), 0);
        due(x.runs(60, 2), 0);
        due(x.starves(0), NONE);
        // each FELLOW eats of his own alone
        x = of("fellow 2;fellow 9;plain 1 9 1;plain 1 9 0;plain 1 9 1;damp 1;");
        due(x.days(1), 11);
        due(x.biscuit(0, 2), 0);
        due(x.biscuit(1, 2), 7);
        due(x.biscuit(2, 2), 9);
    }

    private static void runs() {
        promise(19);
        BiscuitLore x = of(PAIR);
        int[] crumbs = {19, 13, 7, 2, 0};
        int[] lore = {6, 6, 4, 0, 0};
        int[] hunger = {0, 0, 0, 0, 1};
        int[] answered = {0, 0, 1, 5, 5};
        for (int n = 0; n <= 4; n++) {
            due(x.runs(n, 0), crumbs[n]);
            due(x.runs(n, 1), lore[n]);
            due(x.runs(n, 2), hunger[n]);
            due(x.runs(n, 3), answered[n]);
        }
        due(x.runs(60, 2), 57);
        due(x.runs(61, 0), BAD);
        due(x.runs(-1, 0), BAD);
        due(x.runs(0, 4), BAD);
        due(x.runs(0, -1), BAD);
        due(x.rule(4), 0);
        due(x.rule(5), 19);
        due(x.fellow(0, 3), 0);
        x.days(2);
        due(x.runs(60, 3), 4);
        x = of("fellow 1;");
        for (int i = 0; i < 33; i++) x.days(30);
        x.days(7);
        due(x.runs(60, 2), 2);
        due(x.runs(1, 2), 1);
        promise(20);
        x = of(PAIR);
        for (int n = 0; n <= 4; n++) due(x.ahead(0, n), lore[n]);
        due(x.ahead(1, 0), BAD);
        due(x.ahead(-1, 0), BAD);
        due(x.ahead(0, 61), BAD);
        due(x.ahead(0, -1), BAD);
        due(x.ahead(0, 60), 0);
        x = of(HALL);
        due(x.ahead(0, 0), 6);
        due(x.ahead(1, 0), 10);
    }

    private static void ends() {
        promise(21);
        BiscuitLore x = of(PAIR);
        due(x.lasts(1), 2);
        due(x.lasts(2), 3);
        due(x.lasts(3), 0);
        due(x.lasts(10), BAD);
        due(x.lasts(-1), BAD);
        x = of("fellow 0;plain 1 64 0;plain 2 65 0;");
        due(x.lasts(1), 60);
        due(x.lasts(2), NONE);
        promise(22);
        x = of(PAIR);
        due(x.starves(0), 4);
        due(x.starves(1), BAD);
        due(x.starves(-1), BAD);
        x.days(5);
        due(x.starves(0), 1);
        x = of("fellow 1;fellow 1;fellow 0;plain 1 59 0;plain 1 60 1;damp 1;");
        due(x.starves(0), 60);
        due(x.starves(1), NONE);
        due(x.starves(2), NONE);
    }

    private static void need() {
        promise(23);
        BiscuitLore x = of("fellow 0;plain 1 0 0;plain 2 7 0;");
        due(x.need(0, 0), 5);
        due(x.need(0, 1), 6);
        due(x.need(0, 60), 65);
        due(x.need(0, 61), BAD);
        due(x.need(0, -1), BAD);
        due(x.need(2, 0), BAD);
        due(x.need(-1, 0), BAD);
        x.damp(4);
        due(x.need(0, 47), 99);
        due(x.need(0, 48), NONE);
        due(x.biscuit(0, 2), 0);
        x.alter(1, 1, 1);
        due(x.need(0, 0), 0);
        due(x.need(0, 1), 0);
        due(x.need(0, 2), 9);
        // what is more of the first is eaten in place of the second
        x = of("fellow 2;plain 1 0 0;plain 1 10 0;damp 1;");
        due(x.need(0, 3), 1);
        due(x.need(0, 2), 0);
    }

    private static void thriftAndHeir() {
        promise(24);
        BiscuitLore x = of(PAIR);
        due(x.thrift(0, 0), 1);
        due(x.thrift(0, 1), 4);
        due(x.thrift(0, 2), BAD);
        due(x.thrift(0, -1), BAD);
        due(x.thrift(1, 0), BAD);
        due(x.thrift(-1, 0), BAD);
        due(x.fellow(0, 0), 4);
        x.drop(0);
        due(x.thrift(0, 0), 9);
        due(x.thrift(0, 1), 0);
        x = of("fellow 1;plain 1 99 0;damp 0;ask 59 1;");
        due(x.thrift(0, 1), 1);
        x = of("fellow 1;plain 1 99 0;damp 0;ask 60 1;");
        due(x.thrift(0, 1), 0);
        promise(25);
        x = of("fellow 9;fellow 0;plain 1 20 0;ask 2 1;");
        due(x.heir(0, 0), 1);
        due(x.heir(0, 1), 1);
        due(x.heir(0, 2), BAD);
        due(x.heir(0, -1), BAD);
        due(x.heir(1, 0), BAD);
        due(x.heir(-1, 0), BAD);
        due(x.biscuit(0, 3), 0);
        x.drop(0);
        x.pose(0, 1);
        x.alter(0, 3, 1);
        due(x.heir(0, 0), 0);
        due(x.heir(0, 1), 1);
        x.drop(0);
        due(x.heir(0, 0), 0);
        due(x.heir(0, 1), 0);
    }

    private static void swapAndWise() {
        promise(26);
        BiscuitLore x = of("fellow 5;plain 1 20 0;plain 2 20 0;ask 3 1;");
        due(x.swap(0), 1);
        due(x.swap(1), 1);
        due(x.swap(2), BAD);
        due(x.swap(-1), BAD);
        due(x.biscuit(0, 1), 1);
        x.pose(3, 2);
        due(x.swap(0), NONE);
        due(x.swap(1), NONE);
        x = of("fellow 5;fellow 0;plain 3 20 1;plain 1 20 0;plain 2 20 0;plain 4 20 0;ask 3 1;");
        due(x.swap(0), 2);
        due(x.swap(1), 1);
        // what comes ahead of SUBJECT 4 must stay there
        x = of("fellow 5;fellow 5;plain 3 20 1;plain 4 20 1;plain 1 20 0;plain 2 20 0;ask 3 1;ask 3 4;");
        due(x.swap(0), 13);
        due(x.swap(1), 2);
        due(new BiscuitLore().swap(0), NONE);
        promise(27);
        // behind 0: 1 and 2; behind 1: 1 and 1; behind 6: 1 and 0
        x = of("fellow 0;fellow 9;plain 1 99 0;plain 1 10 1;plain 2 50 1;");
        due(x.wise(0, 0), 1);
        due(x.wise(0, 1), 2);
        due(x.wise(1, 0), 0);
        due(x.wise(1, 1), 1);
        due(x.wise(6, 0), 0);
        due(x.wise(6, 1), 1);
        x.bite(20);
        x.alter(0, 2, 0);
        x.alter(2, 2, 0);
        due(x.wise(60, 0), 0);
        due(x.wise(60, 1), 0);
        due(x.wise(61, 0), BAD);
        due(x.wise(-1, 0), BAD);
        due(x.wise(0, 2), BAD);
        due(x.wise(0, -1), BAD);
        due(new BiscuitLore().wise(0, 0), NONE);
        due(new BiscuitLore().wise(0, 1), NONE);
        due(new BiscuitLore().wise(61, 1), BAD);
    }

    private static void chew() {
        promise(28);
        BiscuitLore x = of("fellow 0;plain 1 20 0;ask 3 1;");
        due(x.chew(0), 17);
        due(x.chew(1), 1);
        due(x.chew(2), BAD);
        due(x.chew(-1), BAD);
        due(x.rule(3), 5);
        x.pose(18, 1);
        due(x.chew(0), 2);
        due(x.chew(1), 2);
        x.drop(0);
        due(x.chew(0), 20);
        due(x.chew(1), 0);
        x.pose(20, 1);
        due(x.chew(0), 20);
        due(x.chew(1), 0);
    }

    private static void odds() {
        promise(29);
        // an ordinary DAY takes 1, a damp one 4: known behind two if neither is damp
        BiscuitLore x = of("fellow 0;plain 1 9 0;");
        due(x.luck(3, 0, 1, 2, 0), 49);
        due(x.luck(3, 0, 1, 2, 1), 100);
        due(x.luck(5, 0, 1, 2, 0), 1);
        due(x.luck(5, 0, 1, 2, 1), 4);
        due(x.luck(3, 0, 1, 1, 0), 1);
        due(x.luck(3, 0, 1, 1, 1), 1);
        due(x.luck(10, 0, 1, 2, 0), 0);
        due(x.luck(10, 0, 1, 2, 1), 1);
        due(x.luck(0, 0, 1, 2, 0), 1);
        due(x.luck(7, 0, 2, 0, 0), 0);
        due(x.luck(7, 0, 2, 0, 1), 1);
        x.alter(0, 2, 36);
        due(x.luck(1, 0, 1, 8, 0), 99999999);
        due(x.luck(1, 0, 1, 8, 1), 100000000);
        due(x.luck(11, 0, 1, 2, 0), BAD);
        due(x.luck(-1, 0, 1, 2, 0), BAD);
        due(x.luck(3, 1, 1, 2, 0), BAD);
        due(x.luck(3, -1, 1, 2, 0), BAD);
        due(x.luck(3, 0, 10, 2, 0), BAD);
        due(x.luck(3, 0, -1, 2, 0), BAD);
        due(x.luck(3, 0, 1, 9, 0), BAD);
        due(x.luck(3, 0, 1, -1, 0), BAD);
        due(x.luck(3, 0, 1, 2, 2), BAD);
        due(x.luck(3, 0, 1, 2, -1), BAD);
        due(x.rule(2), 2);
        due(x.rule(4), 0);
        promise(30);
        x.alter(0, 2, 9);
        due(x.mean(3, 1, 0), 71);
        due(x.mean(3, 1, 1), 10);
        due(x.mean(5, 1, 0), 13);
        due(x.mean(5, 1, 1), 2);
        due(x.mean(5, 0, 0), 9);
        due(x.mean(5, 0, 1), 1);
        // 7, 4, 4, 1 behind two
        due(x.mean(5, 2, 0), 4);
        due(x.mean(5, 2, 1), 1);
        due(x.mean(10, 3, 0), 0);
        due(x.mean(10, 3, 1), 1);
        due(x.mean(11, 1, 0), BAD);
        due(x.mean(-1, 1, 0), BAD);
        due(x.mean(3, 9, 0), BAD);
        due(x.mean(3, -1, 0), BAD);
        due(x.mean(3, 1, 2), BAD);
        due(x.mean(3, 1, -1), BAD);
        due(new BiscuitLore().mean(3, 8, 1), 1);
        due(x.rule(5), 9);
    }

    private static void seen() {
        promise(31);
        BiscuitLore x = of("fellow 0;plain 1 20 0;damp 4;");
        due(x.see(31, 0, 1, true), BAD);
        due(x.see(-1, 0, 1, true), BAD);
        due(x.see(0, 1, 1, true), BAD);
        due(x.see(0, -1, 1, true), BAD);
        due(x.see(0, 0, 10, true), BAD);
        due(x.see(0, 0, -1, true), BAD);
        // behind 3: 14, 17, 11, 2 by KIND; behind 6: 8, 14, 2, 0
        promise(33);
        due(x.kinds(0), 15);
        promise(31);
        due(x.see(3, 0, 1, true), 1);
        promise(33);
        due(x.kinds(0), 7);
        due(x.kinds(1), BAD);
        due(x.kinds(-1), BAD);
        promise(31);
        due(x.see(6, 0, 1, false), 2);
        promise(33);
        due(x.kinds(0), 4);
        due(x.biscuit(0, 0), 0);
        promise(34);
        due(x.subjects(0), 0);
        x.alter(0, 0, 2);
        due(x.subjects(0), 2);
        due(x.subjects(1), BAD);
        due(x.subjects(-1), BAD);
        promise(32);
        due(x.forget(3), BAD);
        due(x.forget(-1), BAD);
        due(x.forget(1), 2);
        due(x.forget(2), BAD);
        due(x.kinds(0), 7);
        due(x.forget(0), 1);
        due(x.count(0), 0);
        due(x.kinds(0), 15);
        promise(34);
        due(x.subjects(0), 1023);
        due(x.see(30, 0, 9, false), 1);
        due(x.see(0, 0, 1, false), 2);
        due(x.subjects(0), 1021);
        due(x.biscuit(0, 1), 1);
        promise(31);
        for (int n = 3; n <= 6; n++) due(x.see(0, 0, 0, false), n);
        due(x.see(0, 0, 0, false), FULL);
        due(x.see(31, 0, 0, false), BAD);
        // of two FELLOWS, the one who was seen
        x = of("fellow 0;fellow 0;plain 1 20 1;damp 4;");
        x.see(3, 1, 1, true);
        due(x.kinds(0), 7);
        x.see(3, 0, 1, false);
        due(x.kinds(0), 7);
        x.see(3, 0, 1, true);
        due(x.kinds(0), 0);
        // DAYS are told from now on, whenever it is asked
        x = of("fellow 0;plain 1 20 0;damp 4;");
        x.see(3, 0, 1, true);
        x.days(3);
        promise(33);
        due(x.kinds(0), 7);
        x.days(1);
        due(x.kinds(0), 2 | 1);
        x.alter(0, 2, 20);
        due(x.kinds(0), 7);
    }

    private static void asking() {
        promise(35);
        // known by KIND up to 7, 15, 5, 2 DAYS
        BiscuitLore x = of("fellow 0;plain 1 20 0;damp 4;");
        due(x.ask(0, 0), 60);
        due(x.ask(0, 1), 2);
        x.see(3, 0, 1, true);
        due(x.ask(0, 0), 60);
        due(x.ask(0, 1), 2);
        x.see(6, 0, 1, true);
        due(x.ask(0, 0), 80);
        due(x.ask(0, 1), 1);
        x.see(8, 0, 1, true);
        due(x.ask(0, 0), NONE);
        due(x.ask(0, 1), NONE);
        x.see(0, 0, 1, false);
        due(x.kinds(0), 0);
        due(x.ask(0, 0), NONE);
        due(x.ask(0, 2), BAD);
        due(x.ask(0, -1), BAD);
        due(x.ask(1, 0), BAD);
        due(x.ask(-1, 0), BAD);
        x = of("fellow 0;fellow 0;plain 1 20 1;damp 4;");
        due(x.ask(0, 0), 61);
        x.alter(0, 2, 0);
        due(x.ask(0, 0), NONE);
        // two are left, then all again: what was found for the two is not counted twice
        x = of("fellow 0;plain 1 20 0;damp 4;");
        x.see(6, 0, 1, true);
        due(x.ask(0, 0), 80);
        x.forget(0);
        x.bite(20);
        x.alter(0, 2, 19);
        due(x.ask(0, 0), NONE);
        // told apart up to the 30th DAY: by DAMP 1 a law or plain one loses 0, arts 1, theology 2
        x = of("fellow 0;plain 1 34 0;damp 1;");
        x.see(15, 0, 1, true);
        due(x.kinds(0), 7);
        due(x.ask(0, 0), 300);
        due(x.ask(0, 1), 2);
        x.alter(0, 2, 35);
        due(x.ask(0, 0), 160);
        due(x.ask(0, 1), 3);
    }

    private static void drift() {
        promise(36);
        // by seed 1 are got 16838, 5758, 10113, 17515: whose 0 1 0 1, DAMP 3 9 8 3
        BiscuitLore x = of("fellow 3;fellow 0;plain 1 50 0;");
        int[] crumbs = {46, 42, 35, 34};
        int[] hunger = {0, 1, 1, 2};
        for (int n = 1; n <= 4; n++) {
            due(x.drift(1, n, 0), crumbs[n - 1]);
            due(x.drift(1, n, 1), hunger[n - 1]);
        }
        due(x.drift(1, 0, 0), BAD);
        due(x.drift(1, 61, 0), BAD);
        due(x.drift(1, 1, 2), BAD);
        due(x.drift(1, 1, -1), BAD);
        due(x.drift(DEEP, 60, 0), 0);
        due(x.drift(FAR, 60, 0), 0);
        due(x.rule(5), 50);
        due(x.rule(2), 2);
        due(x.biscuit(0, 3), 0);
        due(of("fellow 3;").drift(1, 1, 0), STATE);
        due(new BiscuitLore().drift(1, 1, 1), STATE);
        due(new BiscuitLore().drift(1, 61, 1), BAD);
    }

    private static void images() {
        promise(37);
        BiscuitLore x = of(PAIR);
        due(x.keep(2), BAD);
        due(x.keep(-1), BAD);
        x.days(4);
        due(x.keep(0), 0);
        due(x.keep(0), 1);
        due(x.count(1), 1);
        promise(38);
        due(x.back(2), BAD);
        due(x.back(-1), BAD);
        due(x.back(1), STATE);
        x.days(3);
        x.diet(0, 7);
        x.damp(7);
        x.bite(7);
        x.drop(1);
        x.bake(3, 3, 3, 0);
        x.alter(0, 0, 1);
        x.alter(0, 1, 7);
        x.alter(1, 2, 77);
        x.see(1, 0, 1, true);
        promise(37);
        due(x.keep(1), 0);
        promise(38);
        due(x.back(0), 4);
        int[] rules = {1, 2, 2, 5, 4, 0, 0};
        for (int what = 0; what <= 6; what++) due(x.rule(what), rules[what]);
        due(x.fellow(0, 0), 4);
        due(x.fellow(0, 3), 1);
        due(x.biscuit(0, 0), 0);
        due(x.biscuit(0, 1), 1);
        due(x.count(5), 4);
        due(x.question(3, 0), 3);
        due(x.count(0), 1);
        due(x.back(1), 7);
        due(x.rule(1), 3);
        due(x.rule(5), 80);
        due(x.fellow(0, 3), 4);
        x.days(1);
        due(x.back(1), 7);
        due(x.count(1), 2);
        promise(37);
        due(new BiscuitLore().keep(1), 0);
    }

    private static void sheets() {
        promise(39);
        BiscuitLore x = of("fellow 0;");
        due(x.sheet(-1, 0, 1), BAD);
        due(x.sheet(4, 0, 1), BAD);
        due(x.sheet(0, 3, 1), BAD);
        due(x.sheet(0, -1, 1), BAD);
        due(x.sheet(0, 0, 41), BAD);
        due(x.sheet(0, 0, -1), -14);
        due(x.sheet(0, 0, DEEP), -14);
        due(x.sheet(4, 0, -1), BAD);
        due(x.sheet(0, 3, -1), BAD);
        due(x.count(3), NONE);
        due(x.sheet(0, 0, 0), 1);
        due(x.count(3), 0);
        due(x.sheet(0, 2, 40), 1);
        due(x.count(3), 40);
        due(x.sheet(0, 2, -1), -14);
        due(x.count(3), 40);
        due(x.lay(0, 2, 9), 1);
        due(x.sheet(0, 2, 4), 1);
        due(x.read(0, 2, 0, 1), 1);
        due(x.biscuit(0, 2), 0);
        promise(40);
        due(x.lay(-1, 0, 0), BAD);
        due(x.lay(4, 0, 0), BAD);
        due(x.lay(1, 0, 0), -11);
        due(x.lay(1, -1, 0), -11);
        due(x.lay(0, 4, 0), -12);
        due(x.lay(0, -1, 0), -12);
        due(x.lay(0, FAR, 0), -12);
        due(x.lay(0, DEEP, 0), -12);
        due(x.lay(0, 3, 0), 1);
        // 256 and 7 is 7 in a byte, not in a short; 65536 and 8 is 8 in a short, not in an int
        for (int lane = 0; lane <= 2; lane++) {
            x.sheet(2, lane, 8);
            due(x.lay(2, 2, 256 + 7), 1);
            due(x.lay(2, 6, 65536 + 8), 1);
            due(x.read(2, lane, 0, 1), lane == 0 ? 1 : -20);
            due(x.read(2, lane, 4, 1), lane == 2 ? -20 : 1);
        }
        due(x.biscuit(1, 2), 7);
        due(x.biscuit(2, 2), 8);
        due(x.biscuit(3, 2), 8);
        due(x.rule(1), 4);
        // 200 is below 0 in a byte
        x.sheet(3, 0, 4);
        x.lay(3, 2, 200);
        due(x.read(3, 0, 0, 1), -20);
    }

    private static void row(BiscuitLore x, int k, int from, int... cells) {
        for (int i = 0; i < cells.length; i++) x.lay(k, from + i, cells[i]);
    }

    private static void reading() {
        promise(41);
        BiscuitLore x = of("fellow 0;fellow 0;");
        x.sheet(1, 1, 15);
        row(x, 1, 0, 0, 1, 50, 0, 3, 2, 9, 1, 2, 3, 4, 2, 0, 0, 0);
        due(x.read(-1, 1, 0, 1), BAD);
        due(x.read(4, 1, 0, 1), BAD);
        due(x.read(1, 3, 0, 1), BAD);
        due(x.read(1, -1, 0, 1), BAD);
        due(x.read(1, 1, 0, 11), BAD);
        due(x.read(1, 1, 0, -1), BAD);
        due(x.read(1, 1, 0, 3), -22);
        due(x.read(1, 1, 8, 1), -20);
        due(x.rule(1), 0);
        due(x.read(1, 1, 0, 2), 2);
        due(x.torn(), 0);
        int[][] came = {{0, 1, 50, 0}, {3, 2, 9, 1}};
        for (int b = 0; b < 2; b++) for (int what = 0; what <= 3; what++) due(x.biscuit(b, what), came[b][what]);
        row(x, 1, 8, 2, 3, 4, 0);
        due(x.read(1, 1, 4, 3), 2);
        promise(42);
        due(x.torn(), 2);
        promise(41);
        due(x.rule(1), 4);
        // the 7th is whole and refused ahead of what is torn behind it
        x.sheet(0, 2, 14);
        due(x.read(0, 2, 0, 10), -22);
        due(x.rule(1), 4);
        promise(42);
        due(x.torn(), 2);
        due(x.read(1, 1, 0, 11), BAD);
        due(x.torn(), 2);
        promise(41);
        due(x.read(0, 2, 6, 10), 2);
        due(x.rule(1), 6);
        due(x.read(0, 2, 0, 0), 0);
        promise(42);
        due(x.torn(), 0);
        due(x.read(0, 1, 0, 1), 0);
        due(x.torn(), 3);
        due(x.read(0, 1, -1, 1), 0);
        due(x.torn(), 3);
        due(x.read(3, 1, -1, 1), 0);
        due(x.torn(), 1);
        due(x.read(0, 2, -1, 1), 0);
        due(x.torn(), 2);
        due(x.read(0, 2, FAR, 2), 0);
        due(x.torn(), 2);
        due(x.read(0, 2, DEEP, 2), 0);
        due(x.torn(), 2);
        due(x.read(0, 2, 11, 1), 0);
        due(x.torn(), 2);
        due(x.read(0, 2, 10, 1), -20);
        due(x.torn(), 2);
        // no BISCUITS are read of it, so that nothing is found
        due(x.read(3, 0, 0, 0), 0);
        due(x.torn(), 0);
        x = new BiscuitLore();
        x.sheet(0, 0, 8);
        promise(41);
        due(x.read(0, 0, 0, 2), -20);
    }

    private static void counts() {
        promise(43);
        BiscuitLore x = of(HALL);
        x.see(1, 0, 1, true);
        x.see(2, 0, 1, true);
        x.keep(1);
        x.feed(32);
        x.feed(32);
        x.feed(32);
        x.sheet(0, 1, 17);
        x.sheet(1, 1, 18);
        int[] counts = {2, 1, 3, 17, 5, 3};
        for (int what = 0; what <= 5; what++) due(x.count(what), counts[what]);
        due(x.count(6), BAD);
        due(x.count(-1), BAD);
        x.keep(0);
        due(x.count(1), 2);
    }
}
