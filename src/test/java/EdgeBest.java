/** Edges of promises 23 to 30 and 36: what is best, damp DAYS, DAYS by a seed. */
final class EdgeBest {
    private EdgeBest() {
    }

    static void test() {
        need();
        thrift();
        heir();
        swap();
        wise();
        chew();
        fractions();
        luck();
        mean();
        drift();
    }

    private static void need() {
        Edges.says(23, "The least CRUMBS of a BISCUIT by which whose it is KNOWS its SUBJECT behind n DAYS (0 to 60), all else as it is.");
        BiscuitLore x = Edges.of("fellow 0;law 1 50 0;damp 0;");
        Edges.due(x.need(0, 0), 5);
        Edges.due(x.need(0, 60), 5);
        x.bite(1);
        Edges.due(x.need(0, 0), 1);
        Edges.due(x.need(0, 60), 1);
        x.bite(20);
        Edges.due(x.need(0, 0), 20);
        Edges.due(x.need(0, 60), 20);
        Edges.due(x.biscuit(0, 2), 50);
        // arts lose 1 a DAY
        x.alter(0, 0, 2);
        Edges.due(x.need(0, 1), 21);
        Edges.due(x.need(0, 60), 80);
        // known by another of his: by 0 CRUMBS; not by another's, nor by one of another SUBJECT
        BiscuitLore y = Edges.of("fellow 0;fellow 0;plain 1 9 0;law 1 5 0;damp 0;");
        Edges.due(y.need(0, 0), 0);
        Edges.due(y.need(0, 60), 0);
        y.alter(1, 3, 1);
        Edges.due(y.need(0, 60), 5);
        y.alter(1, 3, 0);
        y.alter(1, 1, 2);
        Edges.due(y.need(0, 60), 5);
        // the sixth of six
        Edges.due(Edges.of(Edges.ALL).need(5, 1), 25);
        Edges.says(23, "BAD; NONE: by none.");
        // a plain one loses 4: BITE and 96 behind 24 DAYS
        BiscuitLore z = Edges.of("fellow 0;plain 1 50 0;damp 9;bite 3;");
        Edges.due(z.need(0, 24), 99);
        z.bite(4);
        Edges.due(z.need(0, 24), Edges.NONE);
        Edges.due(z.need(0, 60), Edges.NONE);
        Edges.due(z.need(0, 23), 96);
        Edges.outside(n -> z.need(0, n), 0, 60);
        Edges.outside(b -> z.need(b, 60), 0, 0);
        BiscuitLore six = Edges.of(Edges.ALL);
        Edges.outside(b -> six.need(b, 0), 0, 5);
        BiscuitLore none = Edges.of("fellow 1;");
        for (int b = -1; b <= 6; b++) Edges.due(none.need(b, 0), Edges.BAD);
    }

    private static void thrift() {
        Edges.says(24, "The APPETITE of a FELLOW by which most QUESTIONS are ANSWERED in 60 DAYS, of several the greatest (what 0), how many (1).");
        // 5 must be left behind a DAY
        int[] crumbs = {4, 5, 6, 13, 14, 15, 99};
        int[] best = {9, 0, 1, 8, 9, 9, 9};
        int[] many = {0, 1, 1, 1, 1, 1, 1};
        for (int i = 0; i < crumbs.length; i++) {
            BiscuitLore x = Edges.of("fellow 4;law 1 " + crumbs[i] + " 0;damp 0;ask 1 1;");
            Edges.due(x.thrift(0, 0), best[i]);
            Edges.due(x.thrift(0, 1), many[i]);
            Edges.due(x.fellow(0, 0), 4);
        }
        // none are asked; the last of the 60 DAYS, and the one behind
        BiscuitLore none = Edges.of("fellow 0;");
        Edges.inside(what -> none.thrift(0, what), 0, 9, 0);
        BiscuitLore in = Edges.of("fellow 0;law 1 99 0;damp 0;ask 59 1;");
        Edges.inside(what -> in.thrift(0, what), 0, 1, 1);
        BiscuitLore behind = Edges.of("fellow 0;law 1 99 0;damp 0;ask 60 1;");
        Edges.inside(what -> behind.thrift(0, what), 0, 9, 0);
        // all six; the last of four FELLOWS
        BiscuitLore six = Edges.of("fellow 9;fellow 9;fellow 9;fellow 9;law 1 9 3;damp 0;ask 0 1;ask 1 1;ask 2 1;ask 3 1;ask 4 1;ask 4 1;");
        Edges.inside(what -> six.thrift(3, what), 0, 1, 6);
        Edges.inside(what -> six.thrift(0, what), 0, 9, 1);
        Edges.says(24, "BAD.");
        Edges.outside(f -> six.thrift(f, 0), 0, 3);
        Edges.outside(f -> six.thrift(f, 1), 0, 3);
        Edges.outside(what -> six.thrift(3, what), 0, 1);
        Edges.outside(f -> none.thrift(f, 0), 0, 0);
        for (int f = -1; f <= 4; f++) Edges.due(new BiscuitLore().thrift(f, 0), Edges.BAD);
    }

    private static void heir() {
        Edges.says(25, "Whose a BISCUIT is to be so that most QUESTIONS are ANSWERED in 60 DAYS, of several the first (what 0), how many (1).");
        BiscuitLore x = Edges.of("fellow 9;fellow 9;fellow 9;fellow 0;law 1 20 0;damp 0;ask 2 1;");
        Edges.inside(what -> x.heir(0, what), 0, 3, 1);
        Edges.due(x.biscuit(0, 3), 0);
        x.diet(1, 0);
        Edges.inside(what -> x.heir(0, what), 0, 1, 1);
        x.diet(0, 0);
        x.alter(0, 3, 3);
        Edges.inside(what -> x.heir(0, what), 0, 0, 1);
        x.diet(0, 9);
        x.diet(1, 9);
        x.diet(3, 9);
        Edges.inside(what -> x.heir(0, what), 0, 0, 0);
        x.drop(0);
        x.diet(3, 0);
        Edges.inside(what -> x.heir(0, what), 0, 0, 0);
        // one FELLOW alone; all six; the last of the 60 DAYS, and the one behind
        BiscuitLore one = Edges.of("fellow 0;law 1 20 0;damp 0;ask 0 1;ask 1 1;ask 2 1;ask 3 1;ask 4 1;ask 5 1;");
        Edges.inside(what -> one.heir(0, what), 0, 0, 6);
        BiscuitLore in = Edges.of("fellow 9;fellow 0;law 1 20 0;damp 0;ask 59 1;");
        Edges.inside(what -> in.heir(0, what), 0, 1, 1);
        BiscuitLore behind = Edges.of("fellow 9;fellow 0;law 1 20 0;damp 0;ask 60 1;");
        Edges.inside(what -> behind.heir(0, what), 0, 0, 0);
        Edges.says(25, "BAD.");
        Edges.outside(b -> one.heir(b, 0), 0, 0);
        Edges.outside(b -> one.heir(b, 1), 0, 0);
        Edges.outside(what -> one.heir(0, what), 0, 1);
        BiscuitLore six = Edges.of(Edges.ALL);
        Edges.outside(b -> six.heir(b, 0), 0, 5);
        Edges.outside(what -> six.heir(5, what), 0, 1);
        BiscuitLore none = Edges.of("fellow 1;");
        for (int b = -1; b <= 6; b++) Edges.due(none.heir(b, 0), Edges.BAD);
    }

    /** Six that are eaten whole, one a DAY: SUBJECT s is known up to DAY s. */
    private static BiscuitLore sixInARow(String asks) {
        return Edges.of("fellow 9;law 0 9 0;law 1 9 0;law 2 9 0;law 3 9 0;law 4 9 0;law 5 9 0;damp 0;bite 9;" + asks);
    }

    private static void swap() {
        Edges.says(26, "Two BISCUITS that are to change places by order (all of them) so that most QUESTIONS are ANSWERED in 60 DAYS, more than as it is: "
                + "10 times the lesser and the greater, of several the least (what 0), how many (1).");
        Edges.inside(sixInARow("ask 5 4;")::swap, 0, 45, 1);
        Edges.inside(sixInARow("ask 5 0;")::swap, 0, 5, 1);
        Edges.inside(sixInARow("ask 1 0;")::swap, 0, 1, 1);
        Edges.inside(sixInARow("ask 4 3;")::swap, 0, 34, 1);
        Edges.inside(sixInARow("ask 4 3;ask 3 4;")::swap, 0, 34, 2);
        Edges.inside(sixInARow("ask 5 0;ask 4 4;ask 5 3;")::swap, 0, 5, 2);
        Edges.inside(sixInARow("ask 1 1;ask 2 2;ask 3 3;ask 4 4;ask 5 1;ask 4 1;")::swap, 0, 15, 6);
        Edges.inside(sixInARow("ask 4 3;ask 4 4;")::swap, 0, 35, 2);
        // all of them: SUBJECT, KIND, CRUMBS and whose, without any of which the answer is another
        BiscuitLore two = Edges.of("fellow 5;law 1 20 0;law 2 20 0;ask 4 1;");
        Edges.inside(two::swap, 0, 1, 1);
        Edges.due(two.biscuit(0, 1), 1);
        Edges.inside(Edges.of("fellow 5;law 1 20 0;theology 2 99 0;damp 4;ask 3 1;")::swap, 0, 1, 1);
        Edges.inside(Edges.of("fellow 1;law 1 20 0;law 2 4 0;bite 20;ask 1 1;")::swap, 0, 1, 1);
        Edges.inside(Edges.of("fellow 9;fellow 0;law 1 20 0;law 2 0 1;ask 3 1;")::swap, 0, Edges.NONE, Edges.NONE);
        // the last of the 60 DAYS, and the one behind
        Edges.inside(Edges.of("fellow 1;law 1 60 0;law 2 60 0;damp 0;ask 59 1;")::swap, 0, 1, 1);
        Edges.inside(Edges.of("fellow 1;law 1 60 0;law 2 60 0;damp 0;ask 60 1;")::swap, 0, Edges.NONE, Edges.NONE);
        Edges.says(26, "BAD; NONE: by none.");
        Edges.inside(sixInARow("ask 5 5;")::swap, 0, Edges.NONE, Edges.NONE);
        Edges.inside(sixInARow("ask 6 5;")::swap, 0, Edges.NONE, Edges.NONE);
        Edges.inside(sixInARow("")::swap, 0, Edges.NONE, Edges.NONE);
        // as many as it is, but not more
        Edges.inside(sixInARow("ask 5 4;ask 5 5;")::swap, 0, Edges.NONE, Edges.NONE);
        // fewer than two
        Edges.inside(new BiscuitLore()::swap, 0, Edges.NONE, Edges.NONE);
        Edges.inside(Edges.of("fellow 9;law 1 9 0;ask 1 1;")::swap, 0, Edges.NONE, Edges.NONE);
        Edges.outside(new BiscuitLore()::swap, 0, 1);
        Edges.outside(sixInARow("ask 5 4;")::swap, 0, 1);
    }

    private static void wise() {
        Edges.says(27, "Behind n DAYS (0 to 60): the FELLOW who KNOWS most SUBJECTS, of several the first (what 0), how many (1).");
        BiscuitLore x = Edges.of("fellow 0;fellow 0;fellow 0;fellow 0;arts 0 65 3;arts 1 64 3;arts 2 5 3;law 3 5 2;law 3 9 2;law 9 4 2;damp 0;");
        Edges.inside(what -> x.wise(0, what), 0, 3, 3);
        Edges.inside(what -> x.wise(1, what), 0, 3, 2);
        Edges.inside(what -> x.wise(59, what), 0, 3, 2);
        Edges.inside(what -> x.wise(60, what), 0, 2, 1);
        x.days(30);
        Edges.inside(what -> x.wise(60, what), 0, 2, 1);
        BiscuitLore six = Edges.of("fellow 1;fellow 0;law 0 5 1;law 1 5 1;law 2 5 1;law 7 5 1;law 8 5 1;law 9 5 1;damp 0;");
        Edges.inside(what -> six.wise(0, what), 0, 1, 6);
        Edges.inside(what -> six.wise(60, what), 0, 1, 6);
        // nobody KNOWS anything: the first
        BiscuitLore idle = Edges.of("fellow 0;fellow 0;fellow 0;fellow 0;");
        Edges.inside(what -> idle.wise(60, what), 0, 0, 0);
        Edges.says(27, "BAD; NONE: nobody is there.");
        Edges.inside(what -> new BiscuitLore().wise(0, what), 0, Edges.NONE, Edges.NONE);
        Edges.inside(what -> new BiscuitLore().wise(60, what), 0, Edges.NONE, Edges.NONE);
        for (BiscuitLore y : new BiscuitLore[] {new BiscuitLore(), six}) {
            Edges.outside(n -> y.wise(n, 0), 0, 60);
            Edges.outside(n -> y.wise(n, 1), 0, 60);
            Edges.outside(what -> y.wise(0, what), 0, 1);
        }
    }

    private static void chew() {
        Edges.says(28, "The BITE by which most QUESTIONS are ANSWERED in 60 DAYS, of several the greatest (what 0), how many (1).");
        int[] crumbs = {0, 1, 2, 19, 20, 21, 99};
        int[] best = {20, 1, 2, 19, 20, 20, 20};
        for (int i = 0; i < crumbs.length; i++) {
            BiscuitLore x = Edges.of("fellow 0;plain 1 " + crumbs[i] + " 0;ask 0 1;bite 7;");
            Edges.inside(x::chew, 0, best[i], i == 0 ? 0 : 1);
            Edges.due(x.rule(3), 7);
        }
        Edges.inside(new BiscuitLore()::chew, 0, 20, 0);
        Edges.inside(Edges.of("fellow 0;law 1 9 0;")::chew, 0, 20, 0);
        // all six; the last of the 60 DAYS, and the one behind
        Edges.inside(Edges.of("fellow 0;arts 1 9 0;damp 0;ask 0 1;ask 1 1;ask 2 1;ask 3 1;ask 4 1;ask 5 1;")::chew, 0, 4, 6);
        Edges.inside(Edges.of("fellow 0;law 1 9 0;damp 0;ask 59 1;")::chew, 0, 9, 1);
        Edges.inside(Edges.of("fellow 0;law 1 9 0;damp 0;ask 60 1;")::chew, 0, 20, 0);
        Edges.says(28, "BAD.");
        Edges.outside(new BiscuitLore()::chew, 0, 1);
        Edges.outside(Edges.of(Edges.ALL)::chew, 0, 1);
    }

    private static void fractions() {
        Edges.says(Edges.TERMS, "Fractions are in lowest terms, the denominator above 0 (0 is 0 by 1).");
        // behind two DAYS 9 is known if neither is damp
        BiscuitLore x = Edges.of("fellow 0;plain 1 9 0;");
        int[] above = {1, 81, 16, 49, 9, 1, 4, 9, 1, 1, 0};
        int[] below = {1, 100, 25, 100, 25, 4, 25, 100, 25, 100, 1};
        for (int v = 0; v <= 10; v++) {
            Edges.due(x.luck(v, 0, 1, 2, 0), above[v]);
            Edges.due(x.luck(v, 0, 1, 2, 1), below[v]);
        }
        // 8 or 5 behind one: 8 less 3 v tenths
        int[] means = {8, 77, 37, 71, 34, 13, 31, 59, 28, 53, 5};
        int[] tenths = {1, 10, 5, 10, 5, 2, 5, 10, 5, 10, 1};
        for (int v = 0; v <= 10; v++) {
            Edges.due(x.mean(v, 1, 0), means[v]);
            Edges.due(x.mean(v, 1, 1), tenths[v]);
        }
        for (int n = 0; n <= 8; n++) {
            Edges.due(x.luck(3, 0, 2, n, 0), 0);
            Edges.due(x.luck(3, 0, 2, n, 1), 1);
            Edges.due(new BiscuitLore().mean(3, n, 0), 0);
            Edges.due(new BiscuitLore().mean(3, n, 1), 1);
        }
    }

    private static void luck() {
        Edges.says(29, "Each of n DAYS (0 to 8) from now on is a damp one (DAMP 9 in it) by v out of ten (0 to 10), by itself: "
                + "that a FELLOW KNOWS a SUBJECT behind them: 0, 1.");
        // behind 8 DAYS of which k are damp 36 is 28 less 3 k
        BiscuitLore x = Edges.of("fellow 0;fellow 0;plain 9 36 0;");
        Edges.inside(what -> x.luck(1, 0, 9, 8, what), 0, 99999999, 100000000);
        Edges.inside(what -> x.luck(9, 0, 9, 8, what), 0, 56953279, 100000000);
        Edges.inside(what -> x.luck(10, 0, 9, 8, what), 0, 0, 1);
        Edges.inside(what -> x.luck(0, 0, 9, 8, what), 0, 1, 1);
        Edges.inside(what -> x.luck(10, 0, 9, 7, what), 0, 1, 1);
        // none of n DAYS: as it is
        for (int v = 0; v <= 10; v += 5) {
            int by = v;
            Edges.inside(what -> x.luck(by, 0, 9, 0, what), 0, 1, 1);
            Edges.inside(what -> x.luck(by, 0, 8, 0, what), 0, 0, 1);
            Edges.inside(what -> x.luck(by, 1, 9, 0, what), 0, 0, 1);
            Edges.inside(what -> x.luck(by, 1, 9, 8, what), 0, 0, 1);
        }
        // the first SUBJECT, the last FELLOW
        BiscuitLore four = Edges.of("fellow 0;fellow 0;fellow 0;fellow 0;law 0 5 3;damp 0;");
        Edges.inside(what -> four.luck(5, 3, 0, 1, what), 0, 1, 2);
        Edges.inside(what -> four.luck(5, 0, 0, 1, what), 0, 0, 1);
        // where DAMP is 9 all DAYS are alike
        x.damp(9);
        for (int v = 0; v <= 10; v++) Edges.due(x.luck(v, 0, 9, 8, 0), 0);
        x.alter(0, 2, 37);
        for (int v = 0; v <= 10; v++) Edges.due(x.luck(v, 0, 9, 8, 0), 1);
        Edges.due(x.rule(2), 9);
        Edges.says(29, "BAD.");
        for (int n = 0; n <= 8; n += 8) {
            int days = n;
            Edges.outside(v -> x.luck(v, 0, 9, days, 0), 0, 10);
            Edges.outside(f -> x.luck(10, f, 9, days, 0), 0, 1);
            Edges.outside(s -> x.luck(0, 1, s, days, 1), 0, 9);
            Edges.outside(what -> x.luck(10, 0, 0, days, what), 0, 1);
        }
        Edges.outside(n -> x.luck(0, 0, 0, n, 0), 0, 8);
        Edges.outside(n -> x.luck(10, 1, 9, n, 1), 0, 8);
        for (int f = -1; f <= 4; f++) Edges.due(new BiscuitLore().luck(0, f, 0, 0, 0), Edges.BAD);
    }

    private static void mean() {
        Edges.says(30, "Likewise, the mean of all CRUMBS behind them: 0, 1.");
        // 31 less 4 k, but 0 where k is 8: 278 tenths and one of 10 to the 8th, which is above all ints
        BiscuitLore x = Edges.of("fellow 0;plain 1 31 0;damp 0;");
        Edges.inside(what -> x.mean(1, 8, what), 0, 2780000001L, 100000000);
        Edges.inside(what -> x.mean(0, 8, what), 0, 31, 1);
        Edges.inside(what -> x.mean(10, 8, what), 0, 0, 1);
        Edges.inside(what -> x.mean(10, 7, what), 0, 3, 1);
        for (int v = 0; v <= 10; v += 5) {
            int by = v;
            Edges.inside(what -> x.mean(by, 0, what), 0, 31, 1);
        }
        BiscuitLore six = Edges.of("fellow 0;law 0 99 0;law 0 99 0;law 0 99 0;law 0 99 0;law 0 99 0;law 0 99 0;damp 0;");
        Edges.inside(what -> six.mean(0, 8, what), 0, 594, 1);
        Edges.inside(what -> six.mean(1, 8, what), 0, 2922, 5);
        Edges.inside(what -> six.mean(10, 8, what), 0, 498, 1);
        // what is eaten is gone, and who is hungry eats no more than there is
        BiscuitLore eater = Edges.of("fellow 9;law 0 10 0;damp 0;");
        Edges.inside(what -> eater.mean(5, 1, what), 0, 1, 2);
        Edges.inside(what -> eater.mean(5, 2, what), 0, 0, 1);
        Edges.due(eater.rule(5), 10);
        Edges.due(eater.fellow(0, 3), 0);
        Edges.says(30, "BAD.");
        for (BiscuitLore y : new BiscuitLore[] {new BiscuitLore(), six}) {
            Edges.outside(v -> y.mean(v, 0, 0), 0, 10);
            Edges.outside(v -> y.mean(v, 8, 1), 0, 10);
            Edges.outside(n -> y.mean(0, n, 0), 0, 8);
            Edges.outside(n -> y.mean(10, n, 1), 0, 8);
            Edges.outside(what -> y.mean(0, 0, what), 0, 1);
            Edges.outside(what -> y.mean(10, 8, what), 0, 1);
        }
    }

    private static void drift() {
        Edges.says(36, "By itself, n DAYS (1 to 60) by a seed: ahead of each the seed becomes seed times 1103515245 and 12345; bits 16 to 30 of it are got: "
                + "BISCUIT got modulo BISCUITS is FELLOW's got by 8 (down) modulo FELLOWS from then on, DAMP is got by 64 (down) modulo 10: "
                + "all CRUMBS in the end (what 0), by how much HUNGER of all grows (1).");
        BiscuitLore x = Edges.of("fellow 0;fellow 0;fellow 0;fellow 9;plain 0 50 0;plain 0 50 0;plain 0 50 0;plain 0 50 0;plain 0 50 0;plain 0 50 0;");
        // by -1 are got 15929, 4409, 9862, 26718: BISCUITS 5 5 4 0, FELLOWS 3 3 0 3, DAMP 8 8 4 7; the top bit is in none
        for (int seed : new int[] {-1, Edges.GREATEST}) {
            Edges.inside(n -> x.drift(seed, n, 0), 1, 267, 234, 213, 186);
            Edges.inside(n -> x.drift(seed, n, 1), 1, 0, 0, 0, 0);
        }
        // by 0 are got 0, 21468, 9988: BISCUITS 0 0 4, FELLOWS 0 3 0, DAMP 0 5 6
        for (int seed : new int[] {0, Edges.LEAST}) {
            Edges.inside(n -> x.drift(seed, n, 0), 1, 300, 279, 252);
            Edges.inside(n -> x.drift(seed, n, 1), 1, 1, 1, 1);
        }
        Edges.due(x.rule(5), 300);
        Edges.due(x.rule(2), 2);
        Edges.due(x.rule(4), 0);
        Edges.inside(b -> x.biscuit(b, 3), 0, 0, 0, 0, 0, 0, 0);
        Edges.due(x.fellow(3, 3), 0);
        BiscuitLore four = Edges.of("fellow 1;fellow 9;fellow 1;fellow 9;law 0 0 0;");
        for (int seed : new int[] {Edges.LEAST, -1, 0, 1, Edges.GREATEST}) {
            Edges.due(four.drift(seed, 60, 0), 0);
            Edges.due(four.drift(seed, 60, 1), 240);
            Edges.due(four.drift(seed, 1, 1), 4);
        }
        // DAYS beyond those that may go by
        BiscuitLore late = Edges.onDay("fellow 0;law 0 0 0;", 999);
        Edges.due(late.drift(1, 60, 0), 0);
        Edges.says(36, "BAD; STATE: there are no BISCUITS.");
        BiscuitLore none = Edges.of("fellow 1;");
        for (BiscuitLore y : new BiscuitLore[] {new BiscuitLore(), none, four}) {
            Edges.outside(n -> y.drift(1, n, 0), 1, 60);
            Edges.outside(n -> y.drift(1, n, 1), 1, 60);
            Edges.outside(what -> y.drift(1, 1, what), 0, 1);
            Edges.outside(what -> y.drift(1, 60, what), 0, 1);
        }
        for (int n = 1; n <= 60; n += 59) {
            Edges.due(new BiscuitLore().drift(1, n, 0), Edges.STATE);
            Edges.due(none.drift(1, n, 1), Edges.STATE);
        }
        none.bake(0, 0, 0, 0);
        Edges.due(none.drift(1, 1, 1), 1);
    }
}
