/** Edges of promises 18 to 22: DAYS that go by, and what would be. */
final class EdgeDays {
    private EdgeDays() {
    }

    static void test() {
        questions();
        spoiling();
        eating();
        hunger();
        dayByDay();
        days();
        runs();
        ahead();
        lasts();
        starves();
    }

    private static void questions() {
        Edges.says(Edges.TERMS, "2 A DAY, in this order: QUESTIONS of that DAY are asked: each is ANSWERED, if any FELLOW KNOWS its SUBJECT.");
        // asked ahead of what SPOILS and is eaten
        BiscuitLore x = Edges.of("fellow 9;plain 1 5 0;damp 9;ask 0 1;");
        Edges.due(x.runs(0, 3), 0);
        Edges.due(x.runs(1, 3), 1);
        Edges.due(x.runs(60, 3), 1);
        x.alter(0, 2, 4);
        Edges.due(x.runs(60, 3), 0);
        // of another DAY
        x = Edges.of("fellow 9;plain 1 18 0;damp 9;ask 1 1;");
        Edges.due(x.runs(60, 3), 1);
        x.alter(0, 2, 17);
        Edges.due(x.runs(60, 3), 0);
        x.alter(0, 2, 99);
        Edges.due(x.runs(1, 3), 0);
        Edges.due(x.runs(2, 3), 1);
        // a DAY that is gone is not asked again
        x.days(1);
        Edges.due(x.runs(1, 3), 1);
        x.days(1);
        Edges.due(x.runs(60, 3), 0);
        // any FELLOW; each of a DAY, and the last of six too
        x = Edges.of("fellow 0;fellow 0;fellow 0;fellow 0;law 9 5 3;law 0 5 2;ask 0 9;ask 0 1;ask 0 9;ask 1 9;ask 0 0;ask 0 9;");
        Edges.due(x.runs(1, 3), 1 + 4 + 16 + 32);
        Edges.due(x.runs(2, 3), 1 + 4 + 8 + 16 + 32);
        // nobody is there
        x = Edges.of("ask 0 0;");
        Edges.due(x.runs(60, 3), 0);
    }

    private static void spoiling() {
        Edges.says(Edges.TERMS, "Each BISCUIT SPOILS.");
        BiscuitLore x = Edges.of("fellow 0;plain 0 9 0;law 0 9 0;arts 0 9 0;theology 0 9 0;theology 0 3 0;plain 0 0 0;damp 4;");
        Edges.due(x.days(1), 0);
        Edges.inside(b -> x.biscuit(b, 2), 0, 7, 8, 6, 3, 0, 0);
        Edges.due(x.fellow(0, 3), 0);
        // nothing is left to eat of what SPOILS
        BiscuitLore y = Edges.of("fellow 9;theology 0 6 0;damp 4;");
        Edges.due(y.days(1), 0);
        Edges.due(y.fellow(0, 3), 1);
    }

    private static void eating() {
        Edges.says(Edges.TERMS, "Each FELLOW, by order, eats as many CRUMBS as his APPETITE is of his BISCUITS, by order, all of one ahead of the next;");
        BiscuitLore x = Edges.of("fellow 5;fellow 0;plain 0 3 0;plain 0 9 1;plain 0 4 0;damp 0;");
        Edges.due(x.days(1), 5);
        Edges.inside(b -> x.biscuit(b, 2), 0, 0, 9, 2);
        int[][] had = {{4, 5}, {5, 5}, {6, 5}, {0, 5}, {0, 6}, {99, 99}};
        int[][] left = {{0, 4}, {0, 5}, {1, 5}, {0, 0}, {0, 1}, {94, 99}};
        for (int i = 0; i < had.length; i++) {
            BiscuitLore y = Edges.of("fellow 5;law 0 " + had[i][0] + " 0;law 0 " + had[i][1] + " 0;");
            Edges.due(y.days(1), 5);
            Edges.due(y.biscuit(0, 2), left[i][0]);
            Edges.due(y.biscuit(1, 2), left[i][1]);
            Edges.due(y.fellow(0, 3), 0);
        }
        // six of one FELLOW, and one of each
        BiscuitLore six = Edges.of("fellow 9;law 0 2 0;law 0 2 0;law 0 2 0;law 0 2 0;law 0 2 0;law 0 2 0;");
        Edges.due(six.days(1), 9);
        Edges.inside(b -> six.biscuit(b, 2), 0, 0, 0, 0, 0, 1, 2);
        BiscuitLore four = Edges.of("fellow 1;fellow 2;fellow 3;fellow 9;law 0 9 3;law 0 9 2;law 0 9 1;law 0 9 0;");
        Edges.due(four.days(1), 15);
        Edges.inside(b -> four.biscuit(b, 2), 0, 0, 6, 7, 8);
    }

    private static void hunger() {
        Edges.says(Edges.TERMS, "if there are too few, all, and his HUNGER is 1 more (999 at most).");
        // of a plain one 1 SPOILS ahead of what is eaten
        int[] eaten = {0, 0, 1, 2, 3, 4, 5, 5, 5};
        for (int crumbs = 0; crumbs <= 8; crumbs++) {
            BiscuitLore x = Edges.of("fellow 5;plain 0 " + crumbs + " 0;");
            Edges.due(x.days(1), eaten[crumbs]);
            Edges.due(x.biscuit(0, 2), Math.max(0, crumbs - 6));
            Edges.due(x.fellow(0, 3), crumbs < 6 ? 1 : 0);
        }
        // who wants nothing is never hungry; whoever wants and has nothing is each DAY
        BiscuitLore y = Edges.of("fellow 0;fellow 1;fellow 9;");
        y.days(30);
        Edges.inside(f -> y.fellow(f, 3), 0, 0, 30, 30);
        BiscuitLore late = Edges.onDay("fellow 1;fellow 0;plain 0 0 0;", 998);
        Edges.due(late.fellow(0, 3), 998);
        Edges.due(late.runs(1, 2), 1);
        Edges.due(late.runs(2, 2), 1);
        Edges.due(late.runs(60, 2), 1);
        Edges.due(late.starves(0), 1);
        Edges.due(late.drift(0, 60, 1), 1);
        late.days(1);
        Edges.due(late.fellow(0, 3), 999);
        Edges.due(late.fellow(1, 3), 0);
        Edges.due(late.runs(1, 2), 0);
        Edges.due(late.runs(60, 2), 0);
        Edges.due(late.starves(0), Edges.NONE);
        Edges.due(late.drift(0, 60, 1), 0);
    }

    private static void dayByDay() {
        Edges.says(Edges.TERMS, "DAY is 1 more.");
        BiscuitLore x = new BiscuitLore();
        for (int d = 1; d <= 5; d++) {
            x.days(1);
            Edges.due(x.rule(4), d);
        }
        x.days(30);
        Edges.due(x.rule(4), 35);
        // 30 DAYS are as 30 times one
        BiscuitLore y = Edges.of("fellow 2;fellow 1;theology 0 99 0;arts 1 80 0;law 2 60 1;damp 3;");
        BiscuitLore z = Edges.of("fellow 2;fellow 1;theology 0 99 0;arts 1 80 0;law 2 60 1;damp 3;");
        int eaten = 0;
        for (int d = 0; d < 30; d++) eaten += z.days(1);
        Edges.due(y.days(30), eaten);
        for (int b = 0; b <= 2; b++) Edges.due(y.biscuit(b, 2), z.biscuit(b, 2));
        for (int f = 0; f <= 1; f++) Edges.due(y.fellow(f, 3), z.fellow(f, 3));
    }

    private static void days() {
        Edges.says(18, "n DAYS (0 to 30): how many CRUMBS are eaten.");
        BiscuitLore x = Edges.of("fellow 3;fellow 0;law 0 99 0;law 0 99 1;");
        Edges.due(x.days(0), 0);
        Edges.due(x.rule(4), 0);
        Edges.due(x.rule(5), 198);
        Edges.due(x.days(1), 3);
        Edges.due(x.days(30), 90);
        Edges.due(x.rule(4), 31);
        Edges.due(x.rule(5), 105);
        Edges.due(x.days(30), 6);
        Edges.due(x.days(30), 0);
        Edges.due(new BiscuitLore().days(30), 0);
        Edges.says(18, "BAD; FULL: DAY would be 1000 or more.");
        BiscuitLore y = Edges.of("fellow 1;");
        Edges.outside(y::days, 0, 30);
        Edges.due(y.rule(4), 0);
        BiscuitLore early = Edges.onDay("fellow 1;", 969);
        Edges.due(early.days(30), 0);
        Edges.due(early.rule(4), 999);
        BiscuitLore late = Edges.onDay("fellow 1;", 970);
        Edges.due(late.days(30), Edges.FULL);
        Edges.outside(late::days, 0, 30);
        Edges.due(late.rule(4), 970);
        Edges.due(late.fellow(0, 3), 970);
        Edges.due(late.days(29), 0);
        Edges.due(late.rule(4), 999);
        for (int n = 1; n <= 30; n++) Edges.due(late.days(n), Edges.FULL);
        Edges.due(late.days(0), 0);
        Edges.outside(late::days, 0, 30);
        Edges.due(late.rule(4), 999);
    }

    private static void runs() {
        Edges.says(19, "BY DAYS, n of them (0 to 60): all CRUMBS then (what 0), SUBJECTS that any FELLOW KNOWS then (1; bits), "
                + "by how much HUNGER of all grows (2), QUESTIONS that are ANSWERED in them (3; bits).");
        BiscuitLore x = Edges.of("fellow 1;law 9 62 0;damp 1;bite 2;ask 0 9;ask 59 9;ask 60 9;ask 61 9;");
        Edges.inside(what -> x.runs(0, what), 0, 62, 512, 0, 0);
        Edges.inside(what -> x.runs(1, what), 0, 61, 512, 0, 1);
        Edges.inside(what -> x.runs(59, what), 0, 3, 512, 0, 1);
        Edges.inside(what -> x.runs(60, what), 0, 2, 512, 0, 3);
        x.days(1);
        Edges.inside(what -> x.runs(0, what), 0, 61, 512, 0, 0);
        Edges.inside(what -> x.runs(60, what), 0, 1, 0, 0, 6);
        x.days(2);
        Edges.inside(what -> x.runs(60, what), 0, 0, 0, 1, 6);
        BiscuitLore four = Edges.of("fellow 9;fellow 9;fellow 9;fellow 9;");
        Edges.inside(what -> four.runs(0, what), 0, 0, 0, 0, 0);
        Edges.inside(what -> four.runs(60, what), 0, 0, 0, 240, 0);
        four.days(30);
        Edges.due(four.runs(60, 2), 240);
        Edges.inside(what -> new BiscuitLore().runs(60, what), 0, 0, 0, 0, 0);
        // the last DAY that may be asked of, and DAYS beyond those that may go by
        int[] day = {39, 40, 98, 99, 100};
        int[] one = {0, 0, 0, 1, 0};
        int[] sixty = {0, 1, 1, 1, 0};
        for (int i = 0; i < day.length; i++) {
            BiscuitLore late = Edges.onDay("fellow 0;law 0 99 0;damp 0;ask 99 0;", day[i]);
            Edges.due(late.runs(0, 3), 0);
            Edges.due(late.runs(1, 3), one[i]);
            Edges.due(late.runs(60, 3), sixty[i]);
        }
        BiscuitLore last = Edges.onDay("fellow 0;arts 0 99 0;law 0 99 0;damp 0;", 999);
        Edges.inside(what -> last.runs(60, what), 0, 99, 1, 0, 0);
        Edges.due(last.rule(4), 999);
        Edges.says(19, "BAD.");
        for (int what = 0; what <= 3; what++) {
            int of = what;
            Edges.outside(n -> x.runs(n, of), 0, 60);
        }
        Edges.outside(what -> x.runs(0, what), 0, 3);
        Edges.outside(what -> x.runs(60, what), 0, 3);
    }

    private static void ahead() {
        Edges.says(20, "BY DAYS, n of them (0 to 60): SUBJECTS that a FELLOW KNOWS then (bits).");
        // known up to 60, 59 and 0 DAYS by the first, always by the last
        BiscuitLore x = Edges.of("fellow 0;fellow 9;fellow 0;fellow 0;arts 9 65 0;arts 8 64 0;arts 7 5 0;law 0 5 3;damp 0;");
        Edges.inside(f -> x.ahead(f, 0), 0, 896, 0, 0, 1);
        Edges.inside(f -> x.ahead(f, 1), 0, 768, 0, 0, 1);
        Edges.inside(f -> x.ahead(f, 59), 0, 768, 0, 0, 1);
        Edges.inside(f -> x.ahead(f, 60), 0, 512, 0, 0, 1);
        Edges.says(20, "BAD.");
        Edges.outside(f -> x.ahead(f, 0), 0, 3);
        Edges.outside(n -> x.ahead(0, n), 0, 60);
        Edges.outside(n -> x.ahead(3, n), 0, 60);
        BiscuitLore one = Edges.of("fellow 1;");
        Edges.outside(f -> one.ahead(f, 60), 0, 0);
        for (int f = -1; f <= 4; f++) Edges.due(new BiscuitLore().ahead(f, 0), Edges.BAD);
    }

    private static void lasts() {
        Edges.says(21, "BY DAYS: behind how many (0 to 60) nobody KNOWS a SUBJECT first.");
        BiscuitLore x = Edges.of("fellow 0;fellow 0;arts 0 4 0;arts 9 5 0;arts 1 64 1;arts 2 65 1;arts 3 9 0;arts 3 19 1;damp 0;");
        Edges.inside(x::lasts, 0, 0, 60, Edges.NONE, 15, 0, 0, 0, 0, 0, 1);
        for (int s = 0; s <= 9; s++) Edges.due(new BiscuitLore().lasts(s), 0);
        // from now on
        x.days(1);
        Edges.inside(x::lasts, 0, 0, 59, 60, 14, 0, 0, 0, 0, 0, 0);
        Edges.says(21, "BAD; NONE: behind none.");
        Edges.outside(x::lasts, 0, 9);
        Edges.outside(new BiscuitLore()::lasts, 0, 9);
        BiscuitLore y = Edges.of("fellow 0;law 0 5 0;law 9 4 0;damp 3;");
        Edges.due(y.lasts(0), Edges.NONE);
        Edges.due(y.lasts(9), 0);
        Edges.outside(y::lasts, 0, 9);
    }

    private static void starves() {
        Edges.says(22, "BY DAYS: behind how many (0 to 60) HUNGER of a FELLOW is more first than now.");
        BiscuitLore x = Edges.of("fellow 1;fellow 1;fellow 1;fellow 1;law 0 0 0;law 0 1 1;law 0 59 2;law 0 60 3;");
        Edges.inside(x::starves, 0, 1, 2, 60, Edges.NONE);
        x.days(1);
        Edges.inside(x::starves, 0, 1, 1, 59, 60);
        x.days(30);
        Edges.inside(x::starves, 0, 1, 1, 29, 30);
        Edges.says(22, "BAD; NONE: behind none.");
        Edges.outside(x::starves, 0, 3);
        BiscuitLore one = Edges.of("fellow 0;");
        Edges.due(one.starves(0), Edges.NONE);
        Edges.outside(one::starves, 0, 0);
        one.diet(0, 1);
        Edges.due(one.starves(0), 1);
        for (int f = -1; f <= 4; f++) Edges.due(new BiscuitLore().starves(f), Edges.BAD);
    }
}
