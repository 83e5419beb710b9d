/** Edges of promises 6 to 17: what there is, and what is changed. */
final class EdgeState {
    private static final int[] PLAIN = {0, 0, 1, 1, 2, 2, 3, 3, 4, 4};
    private static final int[] LAW = {0, 0, 0, 0, 1, 1, 1, 1, 2, 2};
    private static final int[] ARTS = {1, 1, 2, 2, 3, 3, 4, 4, 5, 5};
    private static final int[] THEOLOGY = {2, 2, 4, 4, 6, 6, 8, 8, 10, 10};
    private static final int[][] LOSSES = {PLAIN, LAW, ARTS, THEOLOGY};
    private static final String SIX = "plain 0 99 0;plain 9 99 0;law 9 99 0;law 0 99 0;arts 1 99 0;law 2 99 0;";

    private EdgeState() {
    }

    static void test() {
        firstAndMost();
        spoils();
        knowing();
        rule();
        fellow();
        biscuit();
        question();
        knows();
        alter();
        diet();
        damp();
        bite();
        pose();
        drop();
        bake();
    }

    private static void firstAndMost() {
        Edges.says(Edges.TERMS, "1 FELLOWS (4 at most), by order, each with an APPETITE (0 to 9), HUNGER (0 at first).");
        BiscuitLore x = Edges.of(Edges.ALL);
        Edges.due(x.rule(0), 4);
        Edges.inside(f -> x.fellow(f, 0), -1, Edges.BAD, 0, 9, 1, 2, Edges.BAD);
        Edges.inside(f -> x.fellow(f, 3), -1, Edges.BAD, 0, 0, 0, 0, Edges.BAD);
        Edges.says(Edges.TERMS, "BISCUITS (6 at most), by order, each of a KIND (0 plain, 1 law, 2 arts, 3 theology), of a SUBJECT (0 to 9), "
                + "of CRUMBS (0 to 99), a FELLOW's.");
        Edges.due(x.rule(1), 6);
        Edges.inside(b -> x.biscuit(b, 0), -1, Edges.BAD, 0, 1, 2, 3, 1, 2, Edges.BAD);
        Edges.inside(b -> x.biscuit(b, 1), -1, Edges.BAD, 0, 9, 1, 2, 3, 4, Edges.BAD);
        Edges.inside(b -> x.biscuit(b, 2), -1, Edges.BAD, 99, 0, 5, 4, 20, 19, Edges.BAD);
        Edges.inside(b -> x.biscuit(b, 3), -1, Edges.BAD, 0, 3, 1, 2, 3, 3, Edges.BAD);
        Edges.says(Edges.TERMS, "DAMP (0 to 9; 2 at first), BITE (1 to 20; 5 at first).");
        Edges.due(new BiscuitLore().rule(2), 2);
        Edges.due(new BiscuitLore().rule(3), 5);
        Edges.due(Edges.of("fellow 1;").rule(2), 2);
        Edges.due(Edges.of("fellow 1;").rule(3), 5);
        Edges.due(x.rule(2), 9);
        Edges.due(x.rule(3), 20);
        Edges.says(Edges.TERMS, "DAY (0 at first).");
        Edges.due(new BiscuitLore().rule(4), 0);
        Edges.due(x.rule(4), 0);
        Edges.says(Edges.TERMS, "QUESTIONS (6 at most), by order: on a DAY (0 to 99) a SUBJECT.");
        Edges.due(x.count(5), 6);
        Edges.inside(i -> x.question(i, 0), -1, Edges.BAD, 0, 99, 1, 2, 3, 3, Edges.BAD);
        Edges.inside(i -> x.question(i, 1), -1, Edges.BAD, 0, 9, 1, 2, 3, 4, Edges.BAD);
        Edges.due(x.pose(0, 0), Edges.FULL);
    }

    private static void spoils() {
        Edges.says(Edges.TERMS, "SPOILS by KIND, CRUMBS in a DAY: plain half of DAMP (down); law half of that of a plain one (down); "
                + "arts 1 more than a plain one; theology twice that of arts; all it has at most.");
        for (int kind = 0; kind <= 3; kind++) {
            for (int damp = 0; damp <= 9; damp++) {
                int loss = LOSSES[kind][damp];
                for (int crumbs : new int[] {0, Math.max(0, loss - 1), loss, loss + 1, 99}) {
                    BiscuitLore x = Edges.of("fellow 0;");
                    x.bake(kind, 0, crumbs, 0);
                    x.damp(damp);
                    Edges.due(x.biscuit(0, 4), Math.min(loss, crumbs));
                    Edges.due(x.days(1), 0);
                    Edges.due(x.biscuit(0, 2), Math.max(0, crumbs - loss));
                }
            }
        }
    }

    private static void knowing() {
        Edges.says(Edges.TERMS, "A FELLOW KNOWS a SUBJECT, if a BISCUIT of his is of it and has BITE CRUMBS or more.");
        for (int bite = 1; bite <= 20; bite++) {
            BiscuitLore x = Edges.of("fellow 0;fellow 0;plain 9 0 1;");
            x.bite(bite);
            for (int crumbs : new int[] {0, bite - 1, bite, bite + 1, 99}) {
                x.alter(0, 2, crumbs);
                int is = crumbs >= bite ? 1 : 0;
                Edges.due(x.knows(9), 2 * is);
                Edges.due(x.knows(8), 0);
                Edges.due(x.fellow(0, 1), 0);
                Edges.due(x.fellow(1, 1), 512 * is);
                Edges.due(x.rule(6), 512 * is);
            }
        }
        // two that are of it do not make one that is enough
        BiscuitLore y = Edges.of("fellow 0;plain 1 4 0;plain 1 4 0;");
        Edges.due(y.fellow(0, 1), 0);
        y.alter(1, 2, 5);
        Edges.due(y.fellow(0, 1), 2);
    }

    private static void rule() {
        Edges.says(6, "0 FELLOWS, 1 BISCUITS, 2 DAMP, 3 BITE, 4 DAY, 5 all CRUMBS, 6 SUBJECTS that any FELLOW KNOWS (bits).");
        Edges.inside(new BiscuitLore()::rule, 0, 0, 0, 2, 5, 0, 0, 0);
        Edges.inside(Edges.of(Edges.ALL)::rule, 0, 4, 6, 9, 20, 0, 147, 9);
        Edges.inside(Edges.of(SIX + "fellow 0;damp 0;bite 1;")::rule, 0, 1, 6, 0, 1, 0, 594, 519);
        Edges.due(Edges.onDay("fellow 1;", 999).rule(4), 999);
        Edges.says(6, "BAD.");
        Edges.outside(new BiscuitLore()::rule, 0, 6);
        Edges.outside(Edges.of(Edges.ALL)::rule, 0, 6);
    }

    private static void fellow() {
        Edges.says(7, "Of a FELLOW: 0 APPETITE, 1 SUBJECTS that he KNOWS (bits), 2 CRUMBS of his BISCUITS, 3 HUNGER, 4 which BISCUITS are his (bits).");
        BiscuitLore x = Edges.of(SIX + "fellow 0;fellow 9;");
        Edges.inside(what -> x.fellow(0, what), 0, 0, 519, 594, 0, 63);
        Edges.inside(what -> x.fellow(1, what), 0, 9, 0, 0, 0, 0);
        BiscuitLore y = Edges.of(Edges.ALL);
        Edges.inside(what -> y.fellow(3, what), 0, 2, 8, 39, 0, 50);
        Edges.due(Edges.onDay("fellow 1;", 999).fellow(0, 3), 999);
        Edges.says(7, "BAD.");
        BiscuitLore none = new BiscuitLore();
        for (int f = -1; f <= 4; f++) Edges.due(none.fellow(f, 0), Edges.BAD);
        Edges.outside(f -> x.fellow(f, 0), 0, 1);
        Edges.outside(f -> y.fellow(f, 4), 0, 3);
        for (int f = 0; f <= 3; f++) {
            int who = f;
            Edges.outside(what -> y.fellow(who, what), 0, 4);
        }
    }

    private static void biscuit() {
        Edges.says(8, "Of a BISCUIT: 0 KIND, 1 SUBJECT, 2 CRUMBS, 3 whose, 4 what it SPOILS.");
        BiscuitLore x = Edges.of(Edges.ALL);
        Edges.inside(what -> x.biscuit(0, what), 0, 0, 0, 99, 0, 4);
        Edges.inside(what -> x.biscuit(1, what), 0, 1, 9, 0, 3, 0);
        Edges.inside(what -> x.biscuit(2, what), 0, 2, 1, 5, 1, 5);
        Edges.inside(what -> x.biscuit(3, what), 0, 3, 2, 4, 2, 4);
        Edges.inside(what -> x.biscuit(5, what), 0, 2, 4, 19, 3, 5);
        Edges.says(8, "BAD.");
        BiscuitLore none = Edges.of("fellow 1;");
        for (int b = -1; b <= 6; b++) Edges.due(none.biscuit(b, 0), Edges.BAD);
        Edges.outside(b -> x.biscuit(b, 0), 0, 5);
        BiscuitLore one = Edges.of("fellow 1;law 1 1 0;");
        Edges.outside(b -> one.biscuit(b, 4), 0, 0);
        for (int b = 0; b <= 5; b++) {
            int of = b;
            Edges.outside(what -> x.biscuit(of, what), 0, 4);
        }
    }

    private static void question() {
        Edges.says(9, "Of a QUESTION: 0 DAY, 1 SUBJECT.");
        BiscuitLore x = Edges.of(Edges.ALL);
        Edges.inside(what -> x.question(0, what), 0, 0, 0);
        Edges.inside(what -> x.question(1, what), 0, 99, 9);
        Edges.inside(what -> x.question(5, what), 0, 3, 4);
        Edges.says(9, "BAD.");
        BiscuitLore none = Edges.of("fellow 1;");
        for (int i = -1; i <= 6; i++) Edges.due(none.question(i, 0), Edges.BAD);
        Edges.outside(i -> x.question(i, 0), 0, 5);
        Edges.outside(i -> x.question(i, 1), 0, 5);
        for (int i = 0; i <= 5; i++) {
            int of = i;
            Edges.outside(what -> x.question(of, what), 0, 1);
        }
        x.drop(3);
        Edges.outside(i -> x.question(i, 0), 0, 2);
    }

    private static void knows() {
        Edges.says(10, "FELLOWS (bits) who KNOW a SUBJECT.");
        for (int s = 0; s <= 9; s++) Edges.due(new BiscuitLore().knows(s), 0);
        BiscuitLore x = Edges.of("plain 0 9 0;plain 0 9 3;law 0 9 1;law 9 9 2;arts 0 4 2;law 9 9 2;fellow 1;fellow 1;fellow 1;fellow 1;");
        Edges.inside(x::knows, 0, 11, 0, 0, 0, 0, 0, 0, 0, 0, 4);
        x.alter(4, 2, 5);
        Edges.due(x.knows(0), 15);
        Edges.says(10, "BAD.");
        Edges.outside(x::knows, 0, 9);
        Edges.outside(new BiscuitLore()::knows, 0, 9);
    }

    private static void alter() {
        Edges.says(11, "KIND, SUBJECT, CRUMBS, whose (what 0 to 3) of a BISCUIT becomes v: what it was.");
        int[] most = {3, 9, 99, 3};
        for (int b = 0; b <= 5; b += 5) {
            for (int what = 0; what <= 3; what++) {
                BiscuitLore x = Edges.of(Edges.ALL);
                int was = x.biscuit(b, what);
                for (int v : new int[] {0, most[what], 1, 1}) {
                    Edges.due(x.alter(b, what, v), was);
                    Edges.due(x.biscuit(b, what), v);
                    was = v;
                }
                // all else is as it was
                BiscuitLore y = Edges.of(Edges.ALL);
                for (int c = 0; c <= 5; c++) {
                    for (int w = 0; w <= 3; w++) {
                        if (c != b || w != what) Edges.due(x.biscuit(c, w), y.biscuit(c, w));
                    }
                }
            }
        }
        Edges.says(11, "BAD.");
        BiscuitLore x = Edges.of(Edges.ALL);
        for (int what = 0; what <= 3; what++) {
            int of = what;
            Edges.outside(v -> x.alter(5, of, v), 0, most[of]);
            Edges.outside(b -> x.alter(b, of, 0), 0, 5);
        }
        Edges.outside(what -> x.alter(0, what, 0), 0, 3);
        // whose: no more than there are
        for (int fellows = 1; fellows <= 3; fellows++) {
            BiscuitLore y = Edges.of("fellow 1;".repeat(fellows) + "law 1 1 0;");
            Edges.due(y.alter(0, 3, fellows - 1), 0);
            Edges.outside(v -> y.alter(0, 3, v), 0, fellows - 1);
            Edges.due(y.biscuit(0, 3), fellows - 1);
            Edges.outside(b -> y.alter(b, 0, 0), 0, 0);
        }
        BiscuitLore none = Edges.of("fellow 1;");
        for (int b = -1; b <= 6; b++) Edges.due(none.alter(b, 0, 0), Edges.BAD);
        Edges.due(new BiscuitLore().alter(0, 3, 0), Edges.BAD);
    }

    private static void diet() {
        Edges.says(12, "APPETITE of a FELLOW becomes v: what it was.");
        BiscuitLore x = Edges.of(Edges.ALL);
        Edges.due(x.diet(0, 0), 0);
        Edges.due(x.diet(0, 9), 0);
        Edges.due(x.diet(3, 9), 2);
        Edges.due(x.diet(3, 0), 9);
        Edges.inside(f -> x.fellow(f, 0), 0, 9, 9, 1, 0);
        Edges.says(12, "BAD.");
        Edges.outside(v -> x.diet(0, v), 0, 9);
        Edges.outside(v -> x.diet(3, v), 0, 9);
        Edges.outside(f -> x.diet(f, 5), 0, 3);
        Edges.inside(f -> x.fellow(f, 0), 0, 9, 9, 1, 0);
        BiscuitLore one = Edges.of("fellow 1;");
        Edges.outside(f -> one.diet(f, 5), 0, 0);
        for (int f = -1; f <= 4; f++) Edges.due(new BiscuitLore().diet(f, 0), Edges.BAD);
    }

    private static void damp() {
        Edges.says(13, "DAMP becomes v: what it was.");
        BiscuitLore x = new BiscuitLore();
        Edges.due(x.damp(0), 2);
        for (int v = 1; v <= 9; v++) Edges.due(x.damp(v), v - 1);
        Edges.due(x.damp(9), 9);
        Edges.due(x.rule(2), 9);
        Edges.says(13, "BAD.");
        Edges.outside(x::damp, 0, 9);
        Edges.due(x.rule(2), 9);
    }

    private static void bite() {
        Edges.says(14, "BITE becomes v: what it was.");
        BiscuitLore x = new BiscuitLore();
        Edges.due(x.bite(1), 5);
        for (int v = 2; v <= 20; v++) Edges.due(x.bite(v), v - 1);
        Edges.due(x.bite(20), 20);
        Edges.due(x.rule(3), 20);
        Edges.says(14, "BAD.");
        Edges.outside(x::bite, 1, 20);
        Edges.due(x.rule(3), 20);
    }

    private static void pose() {
        Edges.says(15, "A QUESTION more: how many there are.");
        BiscuitLore x = new BiscuitLore();
        int[] days = {0, 99, 0, 99, 1, 98};
        int[] subjects = {0, 9, 9, 0, 1, 8};
        for (int i = 0; i < 6; i++) Edges.due(x.pose(days[i], subjects[i]), i + 1);
        for (int i = 0; i < 6; i++) {
            Edges.due(x.question(i, 0), days[i]);
            Edges.due(x.question(i, 1), subjects[i]);
        }
        // a DAY that is gone may be told, and the same one twice
        BiscuitLore late = Edges.onDay("fellow 1;", 999);
        Edges.due(late.pose(0, 0), 1);
        Edges.due(late.pose(0, 0), 2);
        Edges.says(15, "BAD; FULL.");
        Edges.due(x.pose(0, 0), Edges.FULL);
        Edges.due(x.pose(99, 9), Edges.FULL);
        Edges.outside(day -> x.pose(day, 0), 0, 99);
        Edges.outside(s -> x.pose(0, s), 0, 9);
        Edges.due(x.count(5), 6);
        Edges.due(x.question(5, 0), 98);
        BiscuitLore y = new BiscuitLore();
        Edges.outside(day -> y.pose(day, 9), 0, 99);
        Edges.outside(s -> y.pose(99, s), 0, 9);
        Edges.due(y.count(5), 0);
        x.drop(5);
        Edges.due(x.pose(7, 7), 6);
        Edges.due(x.question(5, 0), 7);
        Edges.due(x.pose(7, 7), Edges.FULL);
    }

    private static void drop() {
        Edges.says(16, "QUESTIONS are the first n alone: how many there were.");
        BiscuitLore x = Edges.of(Edges.ALL);
        Edges.due(x.drop(6), 6);
        Edges.inside(i -> x.question(i, 0), 0, 0, 99, 1, 2, 3, 3);
        Edges.due(x.drop(2), 6);
        Edges.inside(i -> x.question(i, 0), 0, 0, 99, Edges.BAD);
        Edges.due(x.drop(0), 2);
        Edges.due(x.question(0, 0), Edges.BAD);
        Edges.due(x.drop(0), 0);
        Edges.says(16, "BAD.");
        Edges.outside(x::drop, 0, 0);
        BiscuitLore y = Edges.of(Edges.ALL);
        Edges.outside(y::drop, 0, 6);
        y.drop(3);
        Edges.outside(y::drop, 0, 3);
        Edges.due(y.count(5), 3);
    }

    private static void bake() {
        Edges.says(17, "A BISCUIT more: how many there are.");
        BiscuitLore x = Edges.of("fellow 1;fellow 1;fellow 1;fellow 1;");
        int[][] baked = {{0, 0, 0, 0}, {3, 9, 99, 3}, {1, 0, 99, 0}, {2, 9, 0, 3}, {0, 1, 1, 1}, {0, 1, 1, 1}};
        for (int b = 0; b < 6; b++) Edges.due(x.bake(baked[b][0], baked[b][1], baked[b][2], baked[b][3]), b + 1);
        for (int b = 0; b < 6; b++) {
            for (int what = 0; what <= 3; what++) Edges.due(x.biscuit(b, what), baked[b][what]);
        }
        Edges.says(17, "BAD; FULL.");
        Edges.due(x.bake(0, 0, 0, 0), Edges.FULL);
        Edges.due(x.bake(3, 9, 99, 3), Edges.FULL);
        for (BiscuitLore y : new BiscuitLore[] {x, Edges.of("fellow 1;fellow 1;fellow 1;fellow 1;")}) {
            int had = y.rule(1);
            Edges.outside(v -> y.bake(v, 0, 0, 0), 0, 3);
            Edges.outside(v -> y.bake(0, v, 0, 0), 0, 9);
            Edges.outside(v -> y.bake(0, 0, v, 0), 0, 99);
            Edges.outside(v -> y.bake(0, 0, 0, v), 0, 3);
            Edges.due(y.rule(1), had);
        }
        for (int fellows = 0; fellows <= 3; fellows++) {
            BiscuitLore y = Edges.of("fellow 1;".repeat(fellows));
            int there = fellows;
            Edges.outside(v -> y.bake(0, 0, 0, v), 0, there - 1);
            if (fellows > 0) Edges.due(y.bake(0, 0, 0, there - 1), 1);
            else Edges.due(y.bake(0, 0, 0, 0), Edges.BAD);
        }
    }
}
