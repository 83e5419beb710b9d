/** Edges of promises 31 to 35: what is SEEN, and what is told from it. */
final class EdgeSeen {
    private EdgeSeen() {
    }

    static void test() {
        behindDays();
        see();
        forget();
        kinds();
        subjects();
        ask();
    }

    private static void behindDays() {
        Edges.says(Edges.TERMS, "SEEN (6): behind n DAYS (0 to 30) from now on a FELLOW KNOWS a SUBJECT, or not.");
        // without DAMP plain ones and law lose nothing, arts 1, theology 2
        int[] crumbs = {4, 5, 34, 35, 64, 65};
        int[] known = {0, 3, 3, 7, 7, 15};
        for (int i = 0; i < crumbs.length; i++) {
            BiscuitLore x = Edges.of("fellow 0;law 1 " + crumbs[i] + " 0;damp 0;");
            x.see(30, 0, 1, true);
            Edges.due(x.kinds(0), known[i]);
            x.forget(0);
            x.see(30, 0, 1, false);
            Edges.due(x.kinds(0), 15 - known[i]);
            // behind none: as it is
            x.forget(0);
            x.see(0, 0, 1, true);
            Edges.due(x.kinds(0), crumbs[i] < 5 ? 0 : 15);
            x.forget(0);
            x.see(0, 0, 1, false);
            Edges.due(x.kinds(0), crumbs[i] < 5 ? 15 : 0);
        }
        // told from the DAY that it is when it is asked
        BiscuitLore y = Edges.of("fellow 0;arts 1 36 0;damp 0;");
        y.see(30, 0, 1, true);
        Edges.due(y.kinds(0), 7);
        y.days(1);
        Edges.due(y.kinds(0), 7);
        y.days(1);
        Edges.due(y.kinds(0), 3);
        Edges.due(y.count(0), 1);
        // beyond the last DAY too
        BiscuitLore late = Edges.onDay("fellow 0;law 1 9 0;damp 0;", 999);
        late.see(30, 0, 1, true);
        Edges.due(late.kinds(0), 3);
        Edges.due(late.rule(4), 999);
    }

    private static void see() {
        Edges.says(31, "SEEN: behind n DAYS (0 to 30) a FELLOW KNOWS a SUBJECT, or not: how many are.");
        BiscuitLore x = Edges.of(Edges.ALL);
        Edges.due(x.see(0, 0, 0, true), 1);
        Edges.due(x.see(30, 3, 9, false), 2);
        Edges.due(x.see(30, 3, 9, false), 3);
        Edges.due(x.see(30, 3, 9, true), 4);
        Edges.due(x.see(0, 3, 0, false), 5);
        Edges.due(x.see(30, 0, 9, true), 6);
        Edges.says(31, "BAD; FULL.");
        Edges.due(x.see(0, 0, 0, true), Edges.FULL);
        Edges.due(x.see(30, 3, 9, false), Edges.FULL);
        Edges.due(x.count(0), 6);
        for (BiscuitLore y : new BiscuitLore[] {x, Edges.of(Edges.ALL)}) {
            int had = y.count(0);
            Edges.outside(n -> y.see(n, 0, 0, true), 0, 30);
            Edges.outside(f -> y.see(0, f, 0, false), 0, 3);
            Edges.outside(s -> y.see(30, 3, s, true), 0, 9);
            Edges.due(y.count(0), had);
        }
        BiscuitLore one = Edges.of("fellow 1;");
        Edges.outside(f -> one.see(0, f, 0, true), 0, 0);
        for (int f = -1; f <= 4; f++) Edges.due(new BiscuitLore().see(0, f, 0, true), Edges.BAD);
        // one is forgotten: one more comes in
        x.forget(5);
        Edges.due(x.see(0, 0, 0, true), 6);
        Edges.due(x.see(0, 0, 0, true), Edges.FULL);
    }

    private static void forget() {
        Edges.says(32, "SEEN are the first n alone: how many there were.");
        BiscuitLore x = Edges.of("fellow 0;law 1 9 0;damp 0;");
        Edges.due(x.forget(0), 0);
        // each more leaves one SUBJECT less: not 4, not 5, not 6, not 7, not 8, not 9
        for (int s = 4; s <= 9; s++) x.see(0, 0, s, false);
        Edges.due(x.subjects(0), 15);
        Edges.due(x.forget(6), 6);
        Edges.due(x.subjects(0), 15);
        Edges.due(x.forget(5), 6);
        Edges.due(x.subjects(0), 15 + 512);
        Edges.due(x.forget(1), 5);
        Edges.due(x.subjects(0), 1023 - 16);
        Edges.due(x.forget(0), 1);
        Edges.due(x.subjects(0), 1023);
        Edges.due(x.forget(0), 0);
        Edges.says(32, "BAD.");
        Edges.outside(x::forget, 0, 0);
        for (int s = 4; s <= 9; s++) x.see(0, 0, s, false);
        Edges.outside(x::forget, 0, 6);
        Edges.due(x.count(0), 6);
        x.forget(2);
        Edges.outside(x::forget, 0, 2);
        Edges.due(x.count(0), 2);
        Edges.outside(new BiscuitLore()::forget, 0, 0);
    }

    private static void kinds() {
        Edges.says(33, "KINDS of a BISCUIT (bits) by which, all else as it is, all is as SEEN.");
        BiscuitLore x = Edges.of("fellow 0;fellow 0;theology 1 9 0;law 2 9 1;damp 0;");
        Edges.due(x.kinds(0), 15);
        Edges.due(x.kinds(1), 15);
        // behind 3: 9 9 6 3
        x.see(3, 0, 1, true);
        Edges.due(x.kinds(0), 7);
        // the first loses 2 a DAY whatever the second is
        Edges.due(x.kinds(1), 0);
        Edges.due(x.biscuit(0, 0), 3);
        x.alter(0, 0, 2);
        Edges.due(x.kinds(1), 15);
        // behind 5: 9 9 4 0
        x.see(5, 0, 1, false);
        Edges.due(x.kinds(0), 4);
        x.see(3, 0, 1, false);
        Edges.due(x.kinds(0), 0);
        // of one SUBJECT two KNOW, by what each has
        BiscuitLore y = Edges.of("fellow 0;fellow 0;theology 1 9 0;law 1 9 1;damp 0;");
        y.see(3, 1, 1, true);
        Edges.due(y.kinds(0), 15);
        Edges.due(y.kinds(1), 7);
        Edges.says(33, "BAD.");
        Edges.outside(x::kinds, 0, 1);
        Edges.outside(Edges.of(Edges.ALL)::kinds, 0, 5);
        BiscuitLore none = Edges.of("fellow 1;");
        for (int b = -1; b <= 6; b++) Edges.due(none.kinds(b), Edges.BAD);
    }

    private static void subjects() {
        Edges.says(34, "SUBJECTS of a BISCUIT (bits) by which, all else as it is, all is as SEEN.");
        BiscuitLore x = Edges.of("fellow 0;fellow 0;law 1 9 0;law 2 9 1;damp 0;");
        Edges.due(x.subjects(0), 1023);
        Edges.due(x.subjects(1), 1023);
        x.see(30, 0, 9, true);
        Edges.due(x.subjects(0), 512);
        Edges.due(x.subjects(1), 0);
        x.see(0, 0, 0, true);
        Edges.due(x.subjects(0), 0);
        x.forget(0);
        x.see(0, 0, 0, true);
        Edges.due(x.subjects(0), 1);
        x.forget(0);
        x.see(0, 0, 9, false);
        x.see(30, 0, 0, false);
        Edges.due(x.subjects(0), 510);
        Edges.due(x.subjects(1), 1023);
        Edges.due(x.biscuit(0, 1), 1);
        // where it has too few CRUMBS nothing is known by it
        x.alter(0, 2, 4);
        Edges.due(x.subjects(0), 1023);
        x.forget(0);
        x.see(0, 0, 1, true);
        Edges.due(x.subjects(0), 0);
        Edges.says(34, "BAD.");
        Edges.outside(x::subjects, 0, 1);
        Edges.outside(Edges.of(Edges.ALL)::subjects, 0, 5);
        BiscuitLore none = Edges.of("fellow 1;");
        for (int b = -1; b <= 6; b++) Edges.due(none.subjects(b), Edges.BAD);
    }

    private static BiscuitLore oneLaw(int crumbs) {
        return Edges.of("fellow 0;law 1 " + crumbs + " 0;damp 0;");
    }

    private static void ask() {
        Edges.says(35, "Behind how many DAYS (0 to 30), which FELLOW to ask whether he KNOWS the SUBJECT of a BISCUIT, so that of its KINDS fewest are left "
                + "at the worst, fewer than now: 10 times the DAYS and who, of several the least (what 0), how many these are (1).");
        // behind 1: 5 5 4 3
        BiscuitLore x = oneLaw(5);
        Edges.inside(what -> x.ask(0, what), 0, 10, 2);
        // theology is out behind 15 DAYS, arts behind 30
        BiscuitLore y = oneLaw(34);
        Edges.inside(what -> y.ask(0, what), 0, 300, 2);
        y.see(16, 0, 1, true);
        Edges.inside(what -> y.ask(0, what), 0, 300, 2);
        // behind 16, and behind 31, which is not asked
        BiscuitLore z = oneLaw(35);
        Edges.inside(what -> z.ask(0, what), 0, 160, 3);
        // which FELLOW: whose it is
        BiscuitLore four = Edges.of("fellow 0;fellow 0;fellow 0;fellow 0;law 1 5 3;damp 0;");
        Edges.inside(what -> four.ask(0, what), 0, 13, 2);
        // of the two that are left one
        four.see(1, 3, 1, false);
        Edges.due(four.kinds(0), 12);
        four.alter(0, 2, 7);
        four.forget(0);
        four.see(3, 3, 1, false);
        Edges.due(four.kinds(0), 12);
        Edges.inside(what -> four.ask(0, what), 0, 23, 1);
        // as well when no more can be SEEN
        for (int i = 0; i < 5; i++) four.see(3, 3, 1, false);
        Edges.due(four.see(3, 3, 1, false), Edges.FULL);
        Edges.inside(what -> four.ask(0, what), 0, 23, 1);
        Edges.due(four.count(0), 6);
        // asked again of what is otherwise, nothing is left over from the time before
        BiscuitLore again = oneLaw(9);
        again.see(5, 0, 1, true);
        Edges.due(again.kinds(0), 3);
        Edges.due(again.ask(0, 0), Edges.NONE);
        again.forget(0);
        again.alter(0, 2, 4);
        Edges.due(again.ask(0, 0), Edges.NONE);
        again.alter(0, 2, 5);
        Edges.inside(what -> again.ask(0, what), 0, 10, 2);
        Edges.says(35, "BAD; NONE: none.");
        z.see(16, 0, 1, true);
        Edges.due(z.kinds(0), 7);
        Edges.inside(what -> z.ask(0, what), 0, Edges.NONE, Edges.NONE);
        // one is left, none is left, all are alike
        BiscuitLore one = oneLaw(9);
        one.see(3, 0, 1, true);
        one.see(5, 0, 1, false);
        Edges.due(one.kinds(0), 4);
        Edges.inside(what -> one.ask(0, what), 0, Edges.NONE, Edges.NONE);
        one.see(0, 0, 1, false);
        Edges.due(one.kinds(0), 0);
        Edges.inside(what -> one.ask(0, what), 0, Edges.NONE, Edges.NONE);
        BiscuitLore empty = oneLaw(4);
        Edges.due(empty.kinds(0), 15);
        Edges.inside(what -> empty.ask(0, what), 0, Edges.NONE, Edges.NONE);
        for (BiscuitLore b : new BiscuitLore[] {x, empty}) {
            Edges.outside(v -> b.ask(v, 0), 0, 0);
            Edges.outside(v -> b.ask(v, 1), 0, 0);
            Edges.outside(v -> b.ask(0, v), 0, 1);
        }
        BiscuitLore six = Edges.of(Edges.ALL);
        Edges.outside(b -> six.ask(b, 0), 0, 5);
        BiscuitLore none = Edges.of("fellow 1;");
        for (int b = -1; b <= 6; b++) Edges.due(none.ask(b, 0), Edges.BAD);
    }
}
