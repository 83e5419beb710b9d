/** Edges of promises 37 to 43: IMAGES, SHEETS and counts. */
final class EdgeSheet {
    private EdgeSheet() {
    }

    static void test() {
        keep();
        back();
        rowsOfCells();
        faults();
        sheet();
        lay();
        read();
        torn();
        readRefused();
        latestTorn();
        count();
    }

    private static void keep() {
        Edges.says(37, "IMAGE k (0, 1) is FELLOWS, BISCUITS (all of them), DAMP, BITE, DAY, QUESTIONS: whether there was one (1, 0).");
        BiscuitLore x = new BiscuitLore();
        Edges.due(x.keep(1), 0);
        Edges.due(x.count(1), 1);
        Edges.due(x.keep(1), 1);
        Edges.due(x.count(1), 1);
        Edges.due(x.keep(0), 0);
        Edges.due(x.keep(0), 1);
        Edges.due(x.count(1), 2);
        // the later one stands in place of the one before
        BiscuitLore y = Edges.of("fellow 1;");
        y.damp(3);
        y.keep(0);
        y.damp(4);
        y.keep(0);
        y.damp(5);
        Edges.due(y.back(0), 0);
        Edges.due(y.rule(2), 4);
        Edges.says(37, "BAD.");
        Edges.outside(x::keep, 0, 1);
        Edges.outside(new BiscuitLore()::keep, 0, 1);
        Edges.due(x.count(1), 2);
    }

    private static void changeAll(BiscuitLore x) {
        x.days(3);
        for (int f = 0; f <= 3; f++) x.diet(f, 5);
        for (int b = 0; b <= 5; b++) {
            x.alter(b, 0, 3 - x.biscuit(b, 0));
            x.alter(b, 1, 9 - x.biscuit(b, 1));
            x.alter(b, 2, 77);
            x.alter(b, 3, 3 - x.biscuit(b, 3));
        }
        x.damp(1);
        x.bite(1);
        x.drop(0);
        x.pose(50, 5);
    }

    private static void sameAs(BiscuitLore x, BiscuitLore y) {
        for (int what = 0; what <= 6; what++) Edges.due(x.rule(what), y.rule(what));
        for (int f = 0; f <= 3; f++) for (int what = 0; what <= 4; what++) Edges.due(x.fellow(f, what), y.fellow(f, what));
        for (int b = 0; b <= 5; b++) for (int what = 0; what <= 4; what++) Edges.due(x.biscuit(b, what), y.biscuit(b, what));
        for (int i = 0; i <= 5; i++) for (int what = 0; what <= 1; what++) Edges.due(x.question(i, what), y.question(i, what));
        Edges.due(x.count(5), y.count(5));
    }

    private static void back() {
        Edges.says(38, "All is as IMAGE k: DAY.");
        for (int k = 0; k <= 1; k++) {
            BiscuitLore x = Edges.onDay(Edges.ALL, 2);
            x.see(0, 0, 0, true);
            x.sheet(0, 0, 7);
            x.keep(k);
            changeAll(x);
            Edges.due(x.back(k), 2);
            sameAs(x, Edges.onDay(Edges.ALL, 2));
            // what no IMAGE is of stays
            Edges.inside(x::count, 0, 1, 1, 0, 7);
        }
        // an IMAGE is not used up, nor changed by what comes behind it
        BiscuitLore y = Edges.onDay(Edges.ALL, 2);
        y.keep(0);
        y.days(1);
        y.keep(1);
        changeAll(y);
        Edges.due(y.back(1), 3);
        y.damp(0);
        Edges.due(y.back(0), 2);
        y.damp(0);
        Edges.due(y.back(0), 2);
        sameAs(y, Edges.onDay(Edges.ALL, 2));
        Edges.due(y.back(1), 3);
        Edges.due(y.rule(2), 9);
        Edges.due(y.count(1), 2);
        BiscuitLore late = Edges.onDay("fellow 1;", 999);
        late.keep(0);
        Edges.due(late.back(0), 999);
        Edges.due(late.fellow(0, 3), 999);
        BiscuitLore nobody = new BiscuitLore();
        nobody.keep(0);
        nobody.damp(9);
        Edges.due(nobody.back(0), 0);
        Edges.due(nobody.rule(2), 2);
        Edges.says(38, "BAD; STATE: there is none.");
        BiscuitLore z = new BiscuitLore();
        Edges.inside(z::back, -1, Edges.BAD, Edges.STATE, Edges.STATE, Edges.BAD);
        Edges.outside(z::back, 0, 1);
        z.keep(1);
        Edges.inside(z::back, -1, Edges.BAD, Edges.STATE, 0, Edges.BAD);
        Edges.outside(z::back, 0, 1);
    }

    /** A SHEET of one BISCUIT whose CRUMBS are v: what comes of it, or the answer of read(). */
    private static int crumbsOf(int lane, int v) {
        BiscuitLore x = Edges.of("fellow 0;");
        x.sheet(0, lane, 4);
        Edges.due(x.lay(0, 2, v), 1);
        int came = x.read(0, lane, 0, 1);
        return came == 1 ? x.biscuit(0, 2) : came;
    }

    private static void rowsOfCells() {
        Edges.says(Edges.TERMS, "SHEETS 0 to 3 are rows of BYTES (lane 0), SHORTS (1), INTS (2) with 0 to 40 CELLS, or nothing (at first).");
        int[] values = {0, 99, 100, -1, 127, 128, 255, 256, 257, 256 + 99, 256 + 100, -256, -256 + 99, 32767, 32768, 65535, 65536, 65536 + 99,
            65536 + 100, -65536, -65536 + 99, Edges.LEAST, Edges.LEAST + 99, Edges.GREATEST};
        for (int v : values) {
            int[] cells = {(byte) v, (short) v, v};
            for (int lane = 0; lane <= 2; lane++) {
                boolean fits = cells[lane] >= 0 && cells[lane] <= 99;
                Edges.due(crumbsOf(lane, v), fits ? cells[lane] : -20);
            }
        }
        for (int k = 0; k <= 3; k++) {
            for (int lane = 0; lane <= 2; lane++) {
                BiscuitLore x = Edges.of("fellow 1;");
                Edges.due(x.lay(k, 0, 0), -11);
                Edges.due(x.sheet(k, lane, 0), 1);
                Edges.due(x.lay(k, 0, 0), -12);
                Edges.due(x.sheet(k, lane, 40), 1);
                Edges.due(x.lay(k, 39, 0), 1);
                Edges.due(x.lay(k, 40, 0), -12);
                // the others have nothing yet
                for (int other = 0; other <= 3; other++) if (other != k) Edges.due(x.lay(other, 0, 0), -11);
            }
        }
    }

    private static void faults() {
        Edges.says(Edges.TERMS, "A FAULT is what the machine finds: 1 NULL (nothing), 2 INDEX, 3 CAST (another lane), 4 SIZE (below 0).");
        for (int lane = 0; lane <= 2; lane++) {
            BiscuitLore x = Edges.of("fellow 1;");
            Edges.due(x.sheet(0, lane, -1), -14);
            Edges.due(x.lay(0, 0, 0), -11);
            for (int as = 0; as <= 2; as++) {
                Edges.due(x.read(0, as, 0, 1), 0);
                Edges.due(x.torn(), 1);
            }
            x.sheet(0, lane, 4);
            Edges.due(x.lay(0, 4, 0), -12);
            for (int as = 0; as <= 2; as++) {
                Edges.due(x.read(0, as, 1, 1), 0);
                Edges.due(x.torn(), as == lane ? 2 : 3);
                Edges.due(x.read(0, as, 0, 1), as == lane ? 1 : 0);
                Edges.due(x.torn(), as == lane ? 0 : 3);
            }
        }
    }

    private static void sheet() {
        Edges.says(39, "A SHEET is a new row of CELLS 0: 1.");
        for (int k = 0; k <= 3; k++) {
            BiscuitLore x = Edges.of("fellow 0;");
            for (int lane = 0; lane <= 2; lane++) {
                Edges.due(x.sheet(k, lane, 40), 1);
                for (int i = 0; i < 40; i++) x.lay(k, i, 9);
                Edges.due(x.read(k, lane, 36, 1), -20);
                Edges.due(x.sheet(k, lane, 40), 1);
                for (int f = 0; f <= 36; f += 36) {
                    int had = x.rule(1);
                    Edges.due(x.read(k, lane, f, 1), 1);
                    int made = had;
                    Edges.inside(what -> x.biscuit(made, what), 0, 0, 0, 0, 0);
                }
            }
        }
        BiscuitLore y = new BiscuitLore();
        int[] sizes = {0, 1, 40, 39, 0};
        for (int n : sizes) {
            Edges.due(y.sheet(0, 2, n), 1);
            Edges.due(y.count(3), n);
            Edges.due(y.lay(0, n, 0), -12);
            Edges.due(y.lay(0, n - 1, 0), n == 0 ? -12 : 1);
        }
        Edges.says(39, "BAD: also n above 40; -10 - 4.");
        BiscuitLore z = new BiscuitLore();
        for (int there = 0; there <= 1; there++) {
            for (int n = -1; n <= 1; n++) {
                int of = n;
                Edges.outside(k -> z.sheet(k, 0, of), 0, 3);
                Edges.outside(lane -> z.sheet(0, lane, of), 0, 2);
            }
            for (int lane = 0; lane <= 2; lane++) {
                Edges.due(z.sheet(0, lane, 41), Edges.BAD);
                Edges.due(z.sheet(0, lane, Edges.GREATEST), Edges.BAD);
                Edges.due(z.sheet(0, lane, -1), -14);
                Edges.due(z.sheet(0, lane, Edges.LEAST), -14);
            }
            // what there was, or was not, is as it was
            Edges.due(z.count(3), there == 0 ? Edges.NONE : 5);
            Edges.due(z.lay(0, 4, 1), there == 0 ? -11 : 1);
            Edges.due(z.lay(0, 5, 1), there == 0 ? -11 : -12);
            z.sheet(0, 1, 5);
        }
    }

    private static void lay() {
        Edges.says(40, "CELL i of a SHEET becomes v (its lowest bits): 1.");
        Edges.due(crumbsOf(0, 256 + 7), 7);
        Edges.due(crumbsOf(1, 65536 + 8), 8);
        Edges.due(crumbsOf(2, 65536 + 8), -20);
        Edges.due(crumbsOf(0, Edges.LEAST), 0);
        Edges.due(crumbsOf(1, Edges.LEAST), 0);
        Edges.due(crumbsOf(2, Edges.LEAST), -20);
        for (int lane = 0; lane <= 2; lane++) {
            Edges.due(crumbsOf(lane, Edges.GREATEST), -20);
            Edges.due(crumbsOf(lane, -1), -20);
        }
        // that CELL alone, the first and the last too, of that SHEET alone
        BiscuitLore x = Edges.of("fellow 0;fellow 0;");
        x.sheet(0, 0, 4);
        x.sheet(1, 0, 4);
        Edges.due(x.lay(1, 0, 3), 1);
        Edges.due(x.lay(1, 3, 1), 1);
        x.read(1, 0, 0, 1);
        Edges.inside(what -> x.biscuit(0, what), 0, 3, 0, 0, 1);
        x.read(0, 0, 0, 1);
        Edges.inside(what -> x.biscuit(1, what), 0, 0, 0, 0, 0);
        Edges.due(x.lay(1, 0, 2), 1);
        x.read(1, 0, 0, 1);
        Edges.inside(what -> x.biscuit(2, what), 0, 2, 0, 0, 1);
        Edges.says(40, "BAD: k; -10 less the FAULT: NULL, INDEX.");
        for (int i : new int[] {Edges.LEAST, -1, 0, 3, 4, Edges.GREATEST}) {
            Edges.outside(k -> x.lay(k, i, 0), 0, 3);
            Edges.due(x.lay(3, i, 0), -11);
            if (i != 0 && i != 3) Edges.due(x.lay(1, i, 0), -12);
        }
        x.sheet(2, 1, 0);
        for (int i = -1; i <= 1; i++) Edges.due(x.lay(2, i, 0), -12);
    }

    private static void layAll(BiscuitLore x, int k, int from, int... cells) {
        for (int i = 0; i < cells.length; i++) x.lay(k, from + i, cells[i]);
    }

    /** A SHEET of bytes with so many CELLS: BISCUITS of SUBJECT 0, 1, 2 and so on. */
    private static BiscuitLore withCells(int cells) {
        BiscuitLore x = Edges.of("fellow 0;");
        x.sheet(3, 0, cells);
        for (int i = 0; 4 * i + 1 < cells; i++) x.lay(3, 4 * i + 1, i);
        return x;
    }

    private static void read() {
        Edges.says(41, "n (0 to 10) BISCUITS (KIND, SUBJECT, CRUMBS, whose) are read of a SHEET taken as of a lane, four CELLS each from CELL f on, "
                + "one behind another as by bake(): how many came.");
        BiscuitLore x = Edges.of("fellow 1;fellow 1;fellow 1;fellow 1;");
        x.sheet(0, 2, 9);
        layAll(x, 0, 1, 3, 9, 99, 3, 1, 2, 30, 2);
        Edges.due(x.read(0, 2, 1, 2), 2);
        Edges.inside(what -> x.biscuit(0, what), 0, 3, 9, 99, 3);
        Edges.inside(what -> x.biscuit(1, what), 0, 1, 2, 30, 2);
        // none of them, wherever it would be
        for (int f : new int[] {Edges.LEAST, -1, 0, 9, 40, Edges.GREATEST}) {
            Edges.due(x.read(0, 2, f, 0), 0);
            Edges.due(x.torn(), 0);
        }
        Edges.due(x.rule(1), 2);
        for (int n = 0; n <= 6; n++) {
            BiscuitLore y = withCells(24);
            Edges.due(y.read(3, 0, 0, n), n);
            Edges.due(y.torn(), 0);
            Edges.due(y.rule(1), n);
            for (int b = 0; b < n; b++) Edges.due(y.biscuit(b, 1), b);
        }
        // the last four CELLS of forty
        BiscuitLore last = withCells(40);
        Edges.due(last.read(3, 0, 36, 1), 1);
        Edges.due(last.biscuit(0, 1), 9);
        Edges.due(last.read(3, 0, 32, 2), 2);
        Edges.due(last.biscuit(1, 1), 8);
        Edges.due(last.torn(), 0);
    }

    private static void torn() {
        Edges.says(41, "What the machine refuses: those that were whole ahead came (its FAULT is asked by torn()).");
        for (int cells = 0; cells <= 24; cells++) {
            BiscuitLore x = withCells(cells);
            int whole = cells / 4;
            Edges.due(x.read(3, 0, 0, whole < 6 ? 10 : 6), whole);
            Edges.due(x.torn(), whole < 6 ? 2 : 0);
            Edges.due(x.rule(1), whole);
            for (int b = 0; b < whole; b++) Edges.due(x.biscuit(b, 1), b);
        }
        // at the end, beyond it, ahead of the first
        int[] from = {36, 37, 38, 39, 40, 41, -1, -3, -4, -5, Edges.LEAST, Edges.GREATEST, Edges.GREATEST - 3};
        for (int i = 0; i < from.length; i++) {
            BiscuitLore x = withCells(40);
            Edges.due(x.read(3, 0, from[i], 2), i == 0 ? 1 : 0);
            Edges.due(x.torn(), 2);
            Edges.due(x.rule(1), i == 0 ? 1 : 0);
        }
        BiscuitLore y = withCells(8);
        Edges.due(y.read(2, 0, 0, 10), 0);
        Edges.due(y.torn(), 1);
        Edges.due(y.read(3, 1, 0, 10), 0);
        Edges.due(y.torn(), 3);
        // nothing, or another lane, is found ahead of the INDEX
        Edges.due(y.read(2, 0, -1, 1), 0);
        Edges.due(y.torn(), 1);
        Edges.due(y.read(3, 2, 99, 1), 0);
        Edges.due(y.torn(), 3);
        Edges.due(y.rule(1), 0);
    }

    private static void readRefused() {
        Edges.says(41, "BAD: k, lane, n; -20 less i: the i-th, whole, is refused by bake() (in whichever way): then none came; the first met.");
        BiscuitLore x = withCells(40);
        for (int n = 0; n <= 10; n += 10) {
            int many = n;
            Edges.outside(k -> x.read(k, 0, 0, many), 0, 3);
            Edges.outside(lane -> x.read(3, lane, 0, many), 0, 2);
        }
        Edges.outside(n -> x.read(3, 0, 0, n), 0, 10);
        Edges.outside(n -> x.read(2, 0, -1, n), 0, 10);
        Edges.due(x.rule(1), 0);
        // the 7th is one too many, whatever there was ahead
        for (int had = 0; had <= 6; had++) {
            BiscuitLore y = withCells(40);
            for (int b = 0; b < had; b++) y.bake(1, 9, 9, 0);
            Edges.due(y.read(3, 0, 0, 10), -26 + had);
            Edges.due(y.read(3, 0, 0, 7 - had), -26 + had);
            Edges.due(y.rule(1), had);
            Edges.due(y.biscuit(had, 0), Edges.BAD);
            Edges.due(y.read(3, 0, 0, 6 - had), 6 - had);
            Edges.due(y.rule(1), 6);
        }
        // KIND, SUBJECT, CRUMBS, whose: each out of its bounds, at each place
        int[] most = {3, 9, 99, 0};
        for (int i = 0; i <= 5; i++) {
            for (int cell = 0; cell <= 3; cell++) {
                BiscuitLore y = withCells(26);
                y.lay(3, 4 * i + cell, most[cell]);
                Edges.due(y.keep(0), 0);
                Edges.due(y.read(3, 0, 0, 6), 6);
                y.back(0);
                for (int v : new int[] {most[cell] + 1, -1, 127, -128}) {
                    y.lay(3, 4 * i + cell, v);
                    Edges.due(y.read(3, 0, 0, 6), -20 - i);
                    Edges.due(y.read(3, 0, 0, 10), -20 - i);
                    Edges.due(y.rule(1), 0);
                    Edges.due(y.read(3, 0, 0, i), i);
                    y.back(0);
                }
            }
        }
        // of two that are refused the first; what is torn behind it is not met
        BiscuitLore two = withCells(11);
        two.lay(3, 0, 4);
        two.lay(3, 4, 4);
        Edges.due(two.read(3, 0, 0, 3), -20);
        two.lay(3, 0, 0);
        Edges.due(two.read(3, 0, 0, 3), -21);
        two.lay(3, 4, 0);
        two.lay(3, 8, 4);
        Edges.due(two.read(3, 0, 0, 3), 2);
        Edges.due(two.torn(), 2);
        // nobody is there
        BiscuitLore nobody = new BiscuitLore();
        nobody.sheet(0, 0, 4);
        Edges.due(nobody.read(0, 0, 0, 1), -20);
        Edges.due(nobody.read(0, 0, 0, 0), 0);
        // what is read is of the FELLOWS that there are
        BiscuitLore y = Edges.of("fellow 1;fellow 1;");
        y.sheet(0, 0, 4);
        y.lay(0, 3, 2);
        Edges.due(y.read(0, 0, 0, 1), -20);
        y.lay(0, 3, 1);
        Edges.due(y.read(0, 0, 0, 1), 1);
    }

    private static void latestTorn() {
        Edges.says(42, "The FAULT of the latest read() that came to an end; 0.");
        BiscuitLore x = withCells(6);
        Edges.due(x.torn(), 0);
        x.read(3, 0, 0, 2);
        Edges.due(x.torn(), 2);
        Edges.due(x.torn(), 2);
        // what is refused did not come to an end
        Edges.due(x.read(4, 0, 0, 1), Edges.BAD);
        Edges.due(x.read(3, 0, 0, 11), Edges.BAD);
        x.lay(3, 0, 4);
        Edges.due(x.read(3, 0, 0, 1), -20);
        Edges.due(x.torn(), 2);
        // other calls find FAULTS of their own
        x.sheet(0, 0, -1);
        x.lay(0, 0, 0);
        x.feed('?');
        x.text();
        Edges.due(x.torn(), 2);
        x.read(2, 0, 0, 1);
        Edges.due(x.torn(), 1);
        x.read(3, 1, 0, 1);
        Edges.due(x.torn(), 3);
        x.read(3, 0, 0, 0);
        Edges.due(x.torn(), 0);
        x.read(3, 1, 0, 1);
        x.lay(3, 0, 3);
        x.read(3, 0, 0, 1);
        Edges.due(x.torn(), 0);
    }

    private static void count() {
        Edges.says(43, "How many: 0 SEEN, 1 IMAGES, 2 bytes on THE TAPE, 3 CELLS of SHEET 0 (NONE: nothing), 4 all APPETITES, 5 QUESTIONS.");
        BiscuitLore x = new BiscuitLore();
        Edges.inside(x::count, 0, 0, 0, 0, Edges.NONE, 0, 0);
        x.sheet(1, 0, 9);
        Edges.due(x.count(3), Edges.NONE);
        x.sheet(0, 0, 0);
        Edges.due(x.count(3), 0);
        BiscuitLore y = Edges.of("fellow 9;fellow 9;fellow 9;fellow 9;ask 0 0;ask 0 0;ask 0 0;ask 0 0;ask 0 0;ask 0 0;");
        for (int i = 0; i < 6; i++) y.see(0, 0, 0, true);
        y.keep(0);
        y.keep(1);
        Edges.feedAll(y, Edges.blanks(160));
        y.sheet(0, 2, 40);
        Edges.inside(y::count, 0, 6, 2, 160, 40, 36, 6);
        Edges.says(43, "BAD.");
        Edges.outside(x::count, 0, 5);
        Edges.outside(y::count, 0, 5);
    }
}
