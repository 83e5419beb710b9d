import java.util.function.Supplier;

/**
 * That what is refused changes nothing, and that what is only asked changes nothing: of two objects that were made alike
 * one gets the call, and then all that other calls show must be the same of both. What shows something by changing
 * it (THE TAPE by text(), IMAGES by back(), SHEETS by read()) is asked of a new pair each time.
 */
final class EdgeRefusal {
    private static final int PARTS = 11;

    private interface Deed {
        long on(BiscuitLore x);
    }

    private interface DeedWith {
        long on(BiscuitLore x, int v);
    }

    /** Calls that make an object, how many there are of each in it, and what it shows. */
    private static final class Making {
        final Supplier<BiscuitLore> maker;
        final int fellows, biscuits, questions, seen, bytes;
        final long[][] shown = new long[PARTS][];

        Making(Supplier<BiscuitLore> maker) {
            this.maker = maker;
            BiscuitLore x = maker.get();
            fellows = x.rule(0);
            biscuits = x.rule(1);
            questions = x.count(5);
            seen = x.count(0);
            bytes = x.count(2);
            for (int part = 0; part < PARTS; part++) shown[part] = new Show(maker.get()).part(part);
        }
    }

    /** The answers of many calls, one behind another. */
    private static final class Show {
        private final BiscuitLore x;
        private final long[] answers = new long[512];
        private int many = 0;

        Show(BiscuitLore x) {
            this.x = x;
        }

        private void put(long answer) {
            answers[many++] = answer;
        }

        long[] part(int part) {
            switch (part) {
                case 0: whatThereIs(); break;
                case 1: whatIsSeen(); break;
                case 2: case 3:
                    put(x.back(part - 2));
                    whatThereIs();
                    break;
                case 4:
                    put(x.text());
                    put(x.fault());
                    whatThereIs();
                    break;
                case 5: case 6: case 7: case 8: cells(part - 5); break;
                case 9: whatWillBe(); break;
                default: whatComesNext();
            }
            return java.util.Arrays.copyOf(answers, many);
        }

        private void whatThereIs() {
            for (int what = 0; what <= 6; what++) put(x.rule(what));
            for (int f = 0; f <= 3; f++) for (int what = 0; what <= 4; what++) put(x.fellow(f, what));
            for (int b = 0; b <= 5; b++) for (int what = 0; what <= 4; what++) put(x.biscuit(b, what));
            for (int i = 0; i <= 5; i++) for (int what = 0; what <= 1; what++) put(x.question(i, what));
            for (int s = 0; s <= 9; s++) put(x.knows(s));
            for (int what = 0; what <= 5; what++) put(x.count(what));
            put(x.fault());
            put(x.torn());
        }

        private void whatIsSeen() {
            for (int b = 0; b <= 5; b++) put(x.ask(b, 0));
            for (int n = x.count(0); n >= 0; n--) {
                put(x.forget(n));
                for (int b = 0; b <= 5; b++) {
                    put(x.kinds(b));
                    put(x.subjects(b));
                }
            }
        }

        /** Of which lane a SHEET is, its CELLS four by four, and how many they are. */
        private void cells(int k) {
            x.end(0);
            Edges.feedAll(x, "fellow 0;fellow 0;");
            x.text();
            x.keep(0);
            for (int lane = 0; lane <= 2; lane++) {
                put(x.read(k, lane, 0, 1));
                put(x.torn());
                for (int f = 0; x.torn() == 0 && f < 24; f += 4) {
                    x.back(0);
                    put(x.read(k, lane, f, 1));
                    for (int what = 0; what <= 3; what++) put(x.biscuit(0, what));
                }
                x.back(0);
            }
            for (int i = 0; i <= 24; i++) put(x.lay(k, i, 0));
        }

        private void whatWillBe() {
            for (int what = 0; what <= 3; what++) put(x.runs(5, what));
            for (int s = 0; s <= 9; s++) put(x.lasts(s));
            for (int f = 0; f <= 3; f++) {
                put(x.ahead(f, 3));
                put(x.starves(f));
                put(x.thrift(f, 0));
                put(x.luck(3, f, 1, 3, 0));
            }
            for (int b = 0; b <= 5; b++) {
                put(x.need(b, 3));
                put(x.heir(b, 0));
            }
            for (int what = 0; what <= 1; what++) {
                put(x.swap(what));
                put(x.wise(3, what));
                put(x.chew(what));
                put(x.mean(3, 3, what));
                put(x.drift(7, 5, what));
            }
        }

        private void whatComesNext() {
            put(x.feed(' '));
            put(x.bake(2, 8, 71, 0));
            put(x.pose(71, 8));
            put(x.see(1, 0, 8, false));
            put(x.keep(0));
            put(x.keep(1));
            put(x.days(1));
            whatThereIs();
        }
    }

    private EdgeRefusal() {
    }

    /** Something of all, of which the last text and the last read() were faulty. */
    private static BiscuitLore some() {
        BiscuitLore x = Edges.of("fellow 3;fellow 2;plain 1 60 0;law 2 40 0;arts 3 55 1;theology 1 90 1;damp 3;bite 6;ask 5 1;ask 8 2;");
        x.days(1);
        x.keep(0);
        x.days(2);
        x.damp(4);
        x.keep(1);
        x.days(1);
        x.see(4, 1, 3, true);
        x.see(9, 0, 1, false);
        for (int lane = 0; lane <= 2; lane++) {
            x.sheet(lane, lane, 9 + lane);
            for (int i = 0; i < 9; i++) x.lay(lane, i, i % 4 == 2 ? 10 * lane + i : i % 4 == 3 ? lane % 2 : (i + lane) % 4);
        }
        x.read(3, 0, 0, 1);
        Edges.feedAll(x, "gull");
        x.text();
        Edges.feedAll(x, "fellow 7;damp 8;");
        return x;
    }

    /** As much of all as there may be, on the last DAY; THE TAPE would be taken. */
    private static BiscuitLore most() {
        BiscuitLore x = Edges.of(Edges.ALL);
        x.keep(0);
        for (int d = 999; d > 0; d -= 30) x.days(Math.min(30, d));
        for (int b = 0; b <= 5; b++) x.alter(b, 2, 99 - 7 * b);
        x.keep(1);
        x.damp(5);
        for (int s = 0; s <= 5; s++) x.see(5 * s, s % 4, s, s % 2 == 0);
        x.sheet(0, 2, 24);
        x.lay(0, 22, 5);
        x.sheet(1, 0, 0);
        x.read(1, 0, 0, 1);
        Edges.feedAll(x, Edges.ALL);
        return x;
    }

    static void test() {
        Making[] all = {new Making(BiscuitLore::new), new Making(EdgeRefusal::some), new Making(EdgeRefusal::most)};
        order();
        Edges.says(Edges.TERMS, "what is refused changes nothing (but THE TAPE, as told).");
        for (Making m : all) {
            badTexts(m);
            badWhatThereIs(m);
            badChanges(m);
            badDays(m);
            badBest(m);
            badOdds(m);
            badSeen(m);
            badSheets(m);
        }
        refusedOtherwise(all[0], all[1], all[2]);
        Edges.says(Edges.TERMS, "BY DAYS: as it would be from now on.");
        for (Making m : all) asked(m);
        // as it is, then, when those DAYS have gone by
        for (int n = 0; n <= 30; n += 5) {
            BiscuitLore x = some();
            BiscuitLore y = some();
            y.days(n);
            Edges.due(x.runs(n, 0), y.rule(5));
            Edges.due(x.runs(n, 1), y.rule(6));
            Edges.due(x.runs(n, 2), y.fellow(0, 3) + y.fellow(1, 3) - x.fellow(0, 3) - x.fellow(1, 3));
            Edges.due(x.ahead(1, n), y.fellow(1, 1));
        }
    }

    private static void leaves(Making m, Deed deed, boolean hasAnswer, long answer) {
        for (int part = 0; part < PARTS; part++) {
            BiscuitLore x = m.maker.get();
            long got = deed.on(x);
            if (hasAnswer) Edges.due(got, answer);
            long[] now = new Show(x).part(part);
            int at = 0;
            while (at < now.length && at < m.shown[part].length && now[at] == m.shown[part][at]) at++;
            Edges.due(at, m.shown[part].length);
            Edges.due(now.length, m.shown[part].length);
        }
    }

    private static void refused(Making m, Deed deed, long answer) {
        leaves(m, deed, true, answer);
    }

    /** The first that are not taken on either side are BAD; the last that are taken, where all is there, are not. */
    private static void bad(Making m, DeedWith deed, int least, int most) {
        for (int v : new int[] {least - 1, most + 1, Edges.LEAST, Edges.GREATEST}) refused(m, x -> deed.on(x, v), Edges.BAD);
        if (m.fellows > 0) {
            Edges.due(deed.on(m.maker.get(), least) == Edges.BAD ? 1 : 0, 0);
            Edges.due(deed.on(m.maker.get(), most) == Edges.BAD ? 1 : 0, 0);
        }
    }

    private static void badTexts(Making m) {
        bad(m, BiscuitLore::feed, 0, 127);
        bad(m, BiscuitLore::end, 0, m.bytes);
    }

    private static void badWhatThereIs(Making m) {
        bad(m, BiscuitLore::rule, 0, 6);
        bad(m, (x, v) -> x.fellow(v, 0), 0, m.fellows - 1);
        bad(m, (x, v) -> x.fellow(0, v), 0, 4);
        bad(m, (x, v) -> x.biscuit(v, 0), 0, m.biscuits - 1);
        bad(m, (x, v) -> x.biscuit(0, v), 0, 4);
        bad(m, (x, v) -> x.question(v, 0), 0, m.questions - 1);
        bad(m, (x, v) -> x.question(0, v), 0, 1);
        bad(m, BiscuitLore::knows, 0, 9);
        bad(m, BiscuitLore::count, 0, 5);
    }

    private static void badChanges(Making m) {
        bad(m, (x, v) -> x.alter(v, 2, 7), 0, m.biscuits - 1);
        bad(m, (x, v) -> x.alter(0, v, 1), 0, 3);
        bad(m, (x, v) -> x.alter(0, 0, v), 0, 3);
        bad(m, (x, v) -> x.alter(0, 1, v), 0, 9);
        bad(m, (x, v) -> x.alter(0, 2, v), 0, 99);
        bad(m, (x, v) -> x.alter(0, 3, v), 0, m.fellows - 1);
        bad(m, (x, v) -> x.diet(v, 7), 0, m.fellows - 1);
        bad(m, (x, v) -> x.diet(0, v), 0, 9);
        bad(m, BiscuitLore::damp, 0, 9);
        bad(m, BiscuitLore::bite, 1, 20);
        bad(m, (x, v) -> x.pose(v, 7), 0, 99);
        bad(m, (x, v) -> x.pose(7, v), 0, 9);
        bad(m, BiscuitLore::drop, 0, m.questions);
        bad(m, (x, v) -> x.bake(v, 7, 7, 0), 0, 3);
        bad(m, (x, v) -> x.bake(1, v, 7, 0), 0, 9);
        bad(m, (x, v) -> x.bake(1, 7, v, 0), 0, 99);
        bad(m, (x, v) -> x.bake(1, 7, 7, v), 0, m.fellows - 1);
    }

    private static void badDays(Making m) {
        bad(m, BiscuitLore::days, 0, 30);
        bad(m, (x, v) -> x.runs(v, 0), 0, 60);
        bad(m, (x, v) -> x.runs(7, v), 0, 3);
        bad(m, (x, v) -> x.ahead(v, 7), 0, m.fellows - 1);
        bad(m, (x, v) -> x.ahead(0, v), 0, 60);
        bad(m, BiscuitLore::lasts, 0, 9);
        bad(m, BiscuitLore::starves, 0, m.fellows - 1);
    }

    private static void badBest(Making m) {
        bad(m, (x, v) -> x.need(v, 7), 0, m.biscuits - 1);
        bad(m, (x, v) -> x.need(0, v), 0, 60);
        bad(m, (x, v) -> x.thrift(v, 0), 0, m.fellows - 1);
        bad(m, (x, v) -> x.thrift(0, v), 0, 1);
        bad(m, (x, v) -> x.heir(v, 0), 0, m.biscuits - 1);
        bad(m, (x, v) -> x.heir(0, v), 0, 1);
        bad(m, BiscuitLore::swap, 0, 1);
        bad(m, (x, v) -> x.wise(v, 0), 0, 60);
        bad(m, (x, v) -> x.wise(7, v), 0, 1);
        bad(m, BiscuitLore::chew, 0, 1);
    }

    private static void badOdds(Making m) {
        bad(m, (x, v) -> x.luck(v, 0, 1, 4, 0), 0, 10);
        bad(m, (x, v) -> x.luck(4, v, 1, 4, 0), 0, m.fellows - 1);
        bad(m, (x, v) -> x.luck(4, 0, v, 4, 0), 0, 9);
        bad(m, (x, v) -> x.luck(4, 0, 1, v, 0), 0, 8);
        bad(m, (x, v) -> x.luck(4, 0, 1, 4, v), 0, 1);
        bad(m, (x, v) -> x.mean(v, 4, 0), 0, 10);
        bad(m, (x, v) -> x.mean(4, v, 0), 0, 8);
        bad(m, (x, v) -> x.mean(4, 4, v), 0, 1);
        bad(m, (x, v) -> x.drift(7, v, 0), 1, 60);
        bad(m, (x, v) -> x.drift(7, 7, v), 0, 1);
    }

    private static void badSeen(Making m) {
        bad(m, (x, v) -> x.see(v, 0, 1, true), 0, 30);
        bad(m, (x, v) -> x.see(4, v, 1, true), 0, m.fellows - 1);
        bad(m, (x, v) -> x.see(4, 0, v, true), 0, 9);
        bad(m, BiscuitLore::forget, 0, m.seen);
        bad(m, BiscuitLore::kinds, 0, m.biscuits - 1);
        bad(m, BiscuitLore::subjects, 0, m.biscuits - 1);
        bad(m, (x, v) -> x.ask(v, 0), 0, m.biscuits - 1);
        bad(m, (x, v) -> x.ask(0, v), 0, 1);
    }

    private static void badSheets(Making m) {
        bad(m, BiscuitLore::keep, 0, 1);
        bad(m, BiscuitLore::back, 0, 1);
        bad(m, (x, v) -> x.sheet(v, 1, 4), 0, 3);
        bad(m, (x, v) -> x.sheet(0, v, 4), 0, 2);
        refused(m, x -> x.sheet(0, 1, 41), Edges.BAD);
        refused(m, x -> x.sheet(0, 1, Edges.GREATEST), Edges.BAD);
        refused(m, x -> x.sheet(0, 1, -1), -14);
        refused(m, x -> x.sheet(0, 1, Edges.LEAST), -14);
        bad(m, (x, v) -> x.lay(v, 0, 7), 0, 3);
        bad(m, (x, v) -> x.read(v, 0, 0, 1), 0, 3);
        bad(m, (x, v) -> x.read(0, v, 0, 1), 0, 2);
        bad(m, (x, v) -> x.read(0, 0, 0, v), 0, 10);
    }

    /** Refused for what there is, or is not. */
    private static void refusedOtherwise(Making none, Making some, Making most) {
        refused(none, x -> x.back(0), Edges.STATE);
        refused(none, x -> x.back(1), Edges.STATE);
        refused(none, x -> x.drift(7, 7, 0), Edges.STATE);
        refused(none, x -> x.swap(0), Edges.NONE);
        refused(none, x -> x.wise(7, 0), Edges.NONE);
        refused(none, x -> x.count(3), Edges.NONE);
        refused(most, x -> x.feed('a'), Edges.FULL);
        refused(most, x -> x.pose(7, 7), Edges.FULL);
        refused(most, x -> x.bake(1, 7, 7, 0), Edges.FULL);
        refused(most, x -> x.days(1), Edges.FULL);
        refused(most, x -> x.days(30), Edges.FULL);
        refused(most, x -> x.see(4, 0, 1, true), Edges.FULL);
        for (int k = 0; k <= 3; k++) {
            int of = k;
            refused(none, x -> x.lay(of, 0, 7), -11);
            refused(some, x -> x.lay(of, -1, 7), of == 3 ? -11 : -12);
            refused(some, x -> x.lay(of, 9 + of, 7), of == 3 ? -11 : -12);
            refused(some, x -> x.lay(of, Edges.GREATEST, 7), of == 3 ? -11 : -12);
            refused(some, x -> x.lay(of, Edges.LEAST, 7), of == 3 ? -11 : -12);
        }
        refused(most, x -> x.read(0, 2, 0, 1), -20);
        refused(most, x -> x.read(0, 2, 20, 1), -20);
        refusedReading(some);
        refusedTexts(some);
    }

    /** A SHEET whose third BISCUIT is refused: none comes of the two ahead of it. */
    private static void refusedReading(Making some) {
        Making torn = new Making(() -> {
            BiscuitLore x = some.maker.get();
            x.sheet(3, 0, 12);
            x.lay(3, 2, 33);
            x.lay(3, 8, 4);
            return x;
        });
        refused(torn, x -> x.read(3, 0, 0, 3), -22);
        refused(torn, x -> x.read(3, 0, 0, 10), -22);
        refused(torn, x -> x.read(3, 0, 8, 1), -20);
        refused(torn, x -> x.read(3, 0, 4, 2), -21);
    }

    /** A text with a FAULT: THE TAPE is empty then, all else stays, as behind one with the same FAULT and nothing more. */
    private static void refusedTexts(Making some) {
        String[] texts = {"damp 9;bite 9;fellow 9;?", "fellow 1;law 1 1 0;ask 7 7;damp", "bite 9;damp 10;", "damp 9;damp 9;",
            "fellow1;fellow2;fellow3;fellow4;fellow5;", "damp 9;law 1 1 0;"};
        int[] places = {23, 31, 12, 7, 32, 17};
        String[] plain = {"?", "damp", "damp 10;", "bite1;bite", "ask0 0;ask0 0;ask0 0;ask0 0;ask0 0;ask0 0;ask0", "law 0 0 0;"};
        for (int i = 0; i < texts.length; i++) {
            String before = plain[i];
            String text = texts[i];
            int place = places[i];
            Making m = new Making(() -> {
                BiscuitLore x = some.maker.get();
                x.end(0);
                Edges.feedAll(x, before);
                x.text();
                return x;
            });
            refused(m, x -> {
                Edges.feedAll(x, text);
                return x.text();
            }, -10 - place);
        }
    }

    /** What is only asked, or would be: whatever the answer, nothing is changed. */
    private static void asked(Making m) {
        leaves(m, x -> x.runs(60, 3) + x.runs(1, 0), false, 0);
        leaves(m, x -> x.ahead(0, 60) + x.lasts(1) + x.starves(0), false, 0);
        leaves(m, x -> x.need(0, 60) + x.need(m.biscuits - 1, 1), false, 0);
        leaves(m, x -> x.thrift(0, 0) + x.thrift(m.fellows - 1, 1), false, 0);
        leaves(m, x -> x.heir(0, 0) + x.heir(m.biscuits - 1, 1), false, 0);
        leaves(m, x -> x.swap(0) + x.swap(1), false, 0);
        leaves(m, x -> x.wise(60, 0) + x.chew(0), false, 0);
        leaves(m, x -> x.luck(5, 0, 1, 8, 0) + x.luck(10, 0, 1, 8, 0), false, 0);
        leaves(m, x -> x.mean(5, 8, 0) + x.mean(10, 1, 1), false, 0);
        leaves(m, x -> x.kinds(0) + x.subjects(0), false, 0);
        leaves(m, x -> x.ask(0, 0) + x.ask(m.biscuits - 1, 1), false, 0);
        leaves(m, x -> x.drift(7, 60, 0) + x.drift(-7, 1, 1), false, 0);
        leaves(m, x -> x.days(0) + x.end(m.bytes) + x.drop(m.questions) + x.forget(m.seen), false, 0);
    }

    private static void order() {
        Edges.says(Edges.TERMS, "Answers: BAD -1 (a number is not as told, there is no such FELLOW, BISCUIT, QUESTION, IMAGE, SHEET), STATE -2 (as told), "
                + "FULL -3, NONE -4 (there is none), the first that fits;");
        Edges.due(BiscuitLore.BAD, -1);
        Edges.due(BiscuitLore.STATE, -2);
        Edges.due(BiscuitLore.FULL, -3);
        Edges.due(BiscuitLore.NONE, -4);
        // BAD ahead of FULL
        BiscuitLore full = most();
        Edges.due(full.feed(128), -1);
        Edges.due(full.pose(100, 0), -1);
        Edges.due(full.bake(0, 0, 0, 4), -1);
        Edges.due(full.days(31), -1);
        Edges.due(full.see(31, 0, 0, true), -1);
        // BAD ahead of STATE and of NONE
        BiscuitLore none = new BiscuitLore();
        Edges.due(none.back(2), -1);
        Edges.due(none.drift(1, 0, 0), -1);
        Edges.due(none.swap(2), -1);
        Edges.due(none.wise(61, 0), -1);
        Edges.due(none.wise(0, 2), -1);
        BiscuitLore one = Edges.of("fellow 0;law 1 4 0;damp 0;");
        Edges.due(one.ask(0, 0), -4);
        Edges.due(one.ask(0, 2), -1);
        Edges.due(one.need(0, 61), -1);
        // BAD ahead of what the machine finds
        Edges.due(none.sheet(4, 0, -1), -1);
        Edges.due(none.sheet(0, 3, -1), -1);
        Edges.due(none.lay(4, -1, 0), -1);
        Edges.due(none.read(0, 3, -1, 1), -1);
        Edges.due(none.read(0, 0, -1, 11), -1);
        Edges.due(none.torn(), 0);
        // none such: BAD, whatever else
        Edges.due(none.fellow(0, 0), -1);
        Edges.due(none.biscuit(0, 0), -1);
        Edges.due(none.question(0, 0), -1);
        Edges.due(none.keep(2), -1);
        Edges.due(none.lay(4, 0, 0), -1);
    }
}
