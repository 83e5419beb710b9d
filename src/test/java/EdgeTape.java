/** Edges of promises 1 to 5: THE TAPE, and the text with its FAULTS. */
final class EdgeTape {
    private static final String[] KINDS = {"plain", "law", "arts", "theology"};
    /** The lines there are, and how many NUMBERS follow each NAME. */
    private static final String[] NAMES = {"fellow", "plain", "law", "arts", "theology", "damp", "bite", "ask"};
    private static final int[] NUMBERS = {1, 3, 3, 3, 3, 1, 1, 2};

    private EdgeTape() {
    }

    static void test() {
        newObject();
        feed();
        end();
        text();
        latestFault();
        places();
        tokens();
        grammar();
        meanings();
        noToken();
        misplaced();
        outOfBounds();
        secondTime();
        tooMany();
        noSuchFellow();
        inPlace();
    }

    /** What text() answers, the FAULT, and that THE TAPE is empty then, taken or not. */
    private static void told(String text, int answer, int fault) {
        BiscuitLore x = new BiscuitLore();
        Edges.feedAll(x, text);
        Edges.due(x.count(2), text.length());
        Edges.due(x.text(), answer);
        Edges.due(x.fault(), fault);
        Edges.due(x.count(2), 0);
    }

    private static void faulty(String text, int place, int fault) {
        told(text, -10 - place, fault);
    }

    private static void newObject() {
        Edges.says(1, "Nobody, no BISCUITS; SHEETS have nothing.");
        // what another object holds is not in a new one
        BiscuitLore other = Edges.of(Edges.ALL);
        other.sheet(0, 0, 40);
        other.see(0, 0, 0, true);
        other.keep(0);
        other.feed('a');
        BiscuitLore x = new BiscuitLore();
        Edges.inside(x::rule, 0, 0, 0, 2, 5, 0, 0, 0);
        for (int i = 0; i < 6; i++) {
            Edges.due(x.fellow(i, 0), Edges.BAD);
            Edges.due(x.biscuit(i, 0), Edges.BAD);
            Edges.due(x.question(i, 0), Edges.BAD);
        }
        for (int s = 0; s <= 9; s++) Edges.due(x.knows(s), 0);
        Edges.inside(x::count, 0, 0, 0, 0, Edges.NONE, 0, 0);
        for (int k = 0; k <= 3; k++) Edges.due(x.lay(k, 0, 0), -11);
        for (int k = 0; k <= 3; k++) {
            for (int lane = 0; lane <= 2; lane++) {
                BiscuitLore y = new BiscuitLore();
                Edges.due(y.torn(), 0);
                Edges.due(y.read(k, lane, 0, 1), 0);
                Edges.due(y.torn(), 1);
            }
        }
        Edges.due(x.back(0), Edges.STATE);
        Edges.due(x.back(1), Edges.STATE);
        Edges.due(x.fault(), 0);
        Edges.due(x.torn(), 0);
    }

    private static void feed() {
        Edges.says(2, "A byte (0 to 127) comes behind THE TAPE: how many it has.");
        BiscuitLore x = new BiscuitLore();
        for (int c = 0; c <= 127; c++) Edges.due(x.feed(c), c + 1);
        Edges.due(x.count(2), 128);
        x = new BiscuitLore();
        Edges.feedAll(x, "bite");
        Edges.due(x.feed('7'), 5);
        Edges.due(x.feed(';'), 6);
        Edges.due(x.text(), 1);
        Edges.due(x.rule(3), 7);
        Edges.due(x.feed(' '), 1);
        Edges.says(2, "BAD; FULL: more than 160.");
        BiscuitLore y = new BiscuitLore();
        Edges.outside(y::feed, 0, 127);
        Edges.due(y.feed(256 + 'a'), Edges.BAD);
        Edges.due(y.feed('a' - 256), Edges.BAD);
        Edges.due(y.count(2), 0);
        for (int n = 1; n <= 160; n++) Edges.due(y.feed(' '), n);
        Edges.due(y.feed(0), Edges.FULL);
        Edges.due(y.feed(127), Edges.FULL);
        Edges.outside(y::feed, 0, 127);
        Edges.due(y.count(2), 160);
        Edges.due(y.end(159), 160);
        Edges.due(y.feed(' '), 160);
        Edges.due(y.feed(' '), Edges.FULL);
        Edges.due(y.text(), 0);
        Edges.due(y.feed(' '), 1);
    }

    private static void end() {
        Edges.says(3, "THE TAPE keeps its first n bytes: how many it had.");
        BiscuitLore x = new BiscuitLore();
        Edges.due(x.end(0), 0);
        Edges.feedAll(x, Edges.blanks(160));
        Edges.due(x.end(160), 160);
        Edges.due(x.count(2), 160);
        Edges.due(x.end(159), 160);
        Edges.due(x.count(2), 159);
        Edges.due(x.end(1), 159);
        Edges.due(x.end(0), 1);
        Edges.due(x.count(2), 0);
        // the first ones stay, and what is fed comes behind them
        Edges.feedAll(x, "bite 7;gull");
        Edges.due(x.end(7), 11);
        Edges.feedAll(x, "damp 3;");
        Edges.due(x.text(), 2);
        Edges.due(x.rule(3), 7);
        Edges.due(x.rule(2), 3);
        Edges.says(3, "BAD.");
        BiscuitLore y = new BiscuitLore();
        Edges.outside(y::end, 0, 0);
        Edges.feedAll(y, "bite 7;");
        Edges.outside(y::end, 0, 7);
        Edges.due(y.count(2), 7);
        Edges.feedAll(y, Edges.blanks(153));
        Edges.outside(y::end, 0, 160);
        Edges.due(y.end(7), 160);
        Edges.due(y.end(8), Edges.BAD);
        Edges.due(y.text(), 1);
        Edges.due(y.rule(3), 7);
    }

    private static void text() {
        Edges.says(4, "THE TAPE (empty then) tells all: how many lines;");
        told("", 0, 0);
        told(Edges.blanks(160), 0, 0);
        told("bite 7;", 1, 0);
        Edges.due(Edges.ALL.length(), 160);
        told(Edges.ALL, 18, 0);
        BiscuitLore x = Edges.of(Edges.ALL);
        Edges.due(x.text(), 0);
        Edges.inside(x::rule, 0, 0, 0, 2, 5, 0, 0, 0);
        Edges.due(x.count(5), 0);
        Edges.says(4, "-10 less the place of its FAULT: that which was told stays.");
        faulty("?", 0, 1);
        faulty(Edges.blanks(159) + "?", 159, 1);
        faulty(Edges.blanks(159) + "a", 159, 2);
        faulty(Edges.blanks(154) + "fellow", 160, 2);
        x = Edges.of("fellow 7;plain 3 20 0;damp 8;bite 9;ask 4 3;");
        x.days(1);
        String[] refused = {"?", "damp", "damp 10;", "bite 2;bite 2;", "ask0 0;ask0 0;ask0 0;ask0 0;ask0 0;ask0 0;ask0 0;", "law 0 0 0;"};
        int[] answers = {-10, -14, -15, -17, -52, -20};
        for (int i = 0; i < refused.length; i++) {
            Edges.feedAll(x, refused[i]);
            Edges.due(x.text(), answers[i]);
            Edges.due(x.fault(), i + 1);
            Edges.inside(x::rule, 0, 1, 1, 8, 9, 1, 9, 8);
            Edges.due(x.fellow(0, 0), 7);
            Edges.due(x.count(5), 1);
            Edges.due(x.question(0, 0), 4);
        }
    }

    private static void latestFault() {
        Edges.says(5, "The FAULT of the latest text(); 0.");
        BiscuitLore x = new BiscuitLore();
        Edges.due(x.fault(), 0);
        Edges.feedAll(x, "gull");
        Edges.due(x.fault(), 0);
        Edges.due(x.text(), -10);
        Edges.due(x.fault(), 2);
        Edges.due(x.fault(), 2);
        x.sheet(0, 0, -1);
        x.lay(0, 0, 0);
        x.read(0, 0, 0, 1);
        x.rule(7);
        Edges.due(x.fault(), 2);
        Edges.feedAll(x, "?");
        Edges.due(x.fault(), 2);
        Edges.due(x.text(), -10);
        Edges.due(x.fault(), 1);
        Edges.due(x.text(), 0);
        Edges.due(x.fault(), 0);
    }

    private static void places() {
        Edges.says(Edges.TERMS, "THE TAPE has 160 bytes, places from 0.");
        for (int at = 0; at < 160; at += 53) {
            faulty(Edges.blanks(at) + "?" + Edges.blanks(159 - at), at, 1);
        }
        BiscuitLore x = new BiscuitLore();
        for (int n = 1; n <= 160; n++) Edges.due(x.feed(' '), n);
        Edges.due(x.feed(' '), Edges.FULL);
    }

    /** What one byte is: 0 a blank, 1 a letter, 2 a figure, 3 the mark, 4 none of a TOKEN. */
    private static int sort(int c) {
        if (c == 32) return 0;
        if (c >= 97 && c <= 122) return 1;
        if (c >= 48 && c <= 57) return 2;
        return c == 59 ? 3 : 4;
    }

    private static void tokens() {
        Edges.says(Edges.TERMS, "TOKENS, each as long as may be, blanks (32) between: NAMES (a .. z), NUMBERS (1 or 2 figures), one ; .");
        for (int c = 0; c <= 127; c++) {
            String sign = String.valueOf((char) c);
            switch (sort(c)) {
                case 0:
                    told(sign, 0, 0);
                    told("fellow" + sign + "1;", 1, 0);
                    told(sign + "fellow 1" + sign + ";" + sign, 1, 0);
                    break;
                case 1:
                    faulty(sign, 0, 2);
                    faulty("fellow" + sign + "1;", 0, 2);
                    faulty("fellow 1" + sign + ";", 8, 2);
                    break;
                case 2:
                    faulty(sign, 0, 2);
                    if (c == '0') told("fellow" + sign + "1;", 1, 0);
                    else faulty("fellow" + sign + "1;", 6, 3);
                    faulty("fellow 1 " + sign + ";", 9, 2);
                    faulty("fellow 11" + sign + ";", 7, 1);
                    break;
                case 3:
                    faulty(sign, 0, 2);
                    faulty("fellow" + sign + "1;", 6, 2);
                    faulty("fellow 1;" + sign, 9, 2);
                    break;
                default:
                    faulty(sign, 0, 1);
                    faulty("fellow" + sign + "1;", 6, 1);
                    faulty("fellow 1" + sign + ";", 8, 1);
                    faulty("fellow 1;" + sign, 9, 1);
            }
        }
        told("fellow1;damp2;bite3;ask4 5;law6 7 0;", 5, 0);
        told(Edges.blanks(9) + "fellow" + Edges.blanks(9) + "1" + Edges.blanks(9) + ";" + Edges.blanks(9), 1, 0);
        faulty("fellow 1 2;", 9, 2);
        faulty("ask 12;", 6, 2);
        faulty("ask 123;", 4, 1);
        faulty("fel low 1;", 0, 2);
        faulty("fellowdamp 1;", 0, 2);
        told("damp 9;", 1, 0);
        told("damp 09;", 1, 0);
        told("damp 00;", 1, 0);
        faulty("damp 009;", 5, 1);
    }

    private static void grammar() {
        Edges.says(Edges.TERMS, "text: { line } line: fellow N ; | K N N N ; | damp N ; | bite N ; | ask N N ; K: plain | law | arts | theology");
        told("", 0, 0);
        for (int i = 0; i < NAMES.length; i++) {
            String head = "fellow 1;";
            String line = NAMES[i];
            // each TOKEN that the line lacks: the end, the mark, a NAME or a NUMBER in its place
            for (int n = 0; n < NUMBERS[i]; n++) {
                faulty(head + line, head.length() + line.length(), 2);
                faulty(head + line + " ;", head.length() + line.length() + 1, 2);
                faulty(head + line + " damp", head.length() + line.length() + 1, 2);
                line += n == 2 ? " 0" : " 1";
            }
            faulty(head + line, head.length() + line.length(), 2);
            faulty(head + line + " 1;", head.length() + line.length() + 1, 2);
            faulty(head + line + " ask", head.length() + line.length() + 1, 2);
            told(head + line + ";", 2, 0);
            told(head + line + " ; ", 2, 0);
            faulty(head + line + ";;", head.length() + line.length() + 1, 2);
            faulty(head + line + ";1", head.length() + line.length() + 1, 2);
            faulty(head + NAMES[i] + "x 1;", head.length(), 2);
            faulty(head + NAMES[i].substring(1) + " 1;", head.length(), 2);
            faulty(head + NAMES[i].substring(0, NAMES[i].length() - 1) + " 1;", head.length(), 2);
            faulty(head + NAMES[i].toUpperCase() + " 1;", head.length(), 1);
            for (int at = 0; at < NAMES[i].length(); at++) {
                faulty(head + NAMES[i].substring(0, at) + "x" + NAMES[i].substring(at + 1) + " 1;", head.length(), 2);
            }
        }
    }

    private static void meanings() {
        Edges.says(Edges.TERMS, "fellow: a FELLOW more: APPETITE. K: a BISCUIT more of that KIND: SUBJECT, CRUMBS, whose (0 to 3).");
        BiscuitLore x = Edges.of("fellow 0;fellow 9;fellow 09;fellow 5;");
        Edges.due(x.rule(0), 4);
        Edges.inside(f -> x.fellow(f, 0), 0, 0, 9, 9, 5);
        for (int kind = 0; kind <= 3; kind++) {
            BiscuitLore y = Edges.of(KINDS[kind] + " 0 0 0;" + KINDS[kind] + " 9 99 3;fellow 1;fellow 1;fellow 1;fellow 1;");
            Edges.due(y.rule(1), 2);
            Edges.inside(what -> y.biscuit(0, what), 0, kind, 0, 0, 0);
            Edges.inside(what -> y.biscuit(1, what), 0, kind, 9, 99, 3);
        }
        Edges.says(Edges.TERMS, "damp: DAMP. bite: BITE. ask: a QUESTION more: DAY, SUBJECT.");
        for (int v = 0; v <= 9; v++) Edges.due(Edges.of("damp " + v + ";").rule(2), v);
        for (int v = 1; v <= 20; v++) Edges.due(Edges.of("bite " + v + ";").rule(3), v);
        BiscuitLore z = Edges.of("ask 0 9;ask 99 0;ask 1 2;");
        Edges.due(z.count(5), 3);
        Edges.inside(what -> z.question(0, what), 0, 0, 9);
        Edges.inside(what -> z.question(1, what), 0, 99, 0);
        Edges.inside(what -> z.question(2, what), 0, 1, 2);
    }

    private static void noToken() {
        Edges.says(Edges.TERMS, "FAULTS, the first met as it is read (a TOKEN is read when the one before has been taken):");
        // the one before is refused, so that what is no TOKEN behind it is not read
        faulty("gull?", 0, 2);
        faulty("gull 100", 0, 2);
        faulty("; ?", 0, 2);
        faulty("damp 10?", 5, 3);
        faulty("damp 10 100", 5, 3);
        faulty("damp 1;damp?", 7, 4);
        faulty("bite 1;bite 100", 7, 4);
        faulty("fellow1;fellow1;fellow1;fellow1;fellow?", 32, 5);
        faulty("law 1 1 0;law 1 1 0;law 1 1 0;law 1 1 0;law 1 1 0;law 1 1 0;law 100", 60, 5);
        // the one before is taken
        faulty("damp?", 4, 1);
        faulty("damp 1?", 6, 1);
        faulty("damp 1;?", 7, 1);
        faulty("law 1 1 3;?", 10, 1);
        faulty("law 1 1 3", 9, 2);
        // of two FAULTS the one in front
        faulty("damp 10;gull", 5, 3);
        faulty("gull;damp 10", 0, 2);
        faulty("plain 10 100 4", 6, 3);
        faulty("plain 1 100 4", 8, 1);
        faulty("damp 1;damp 10;", 7, 4);
        Edges.says(Edges.TERMS, "1 no TOKEN, a NUMBER that is too long (its first byte).");
        faulty("damp 99?", 5, 3);
        faulty("damp 100;", 5, 1);
        faulty("damp 000;", 5, 1);
        faulty("damp   001", 7, 1);
        // as an int, or as its lowest byte, each of these would be 1
        faulty("damp 4294967297;", 5, 1);
        faulty("damp 18446744073709551617;", 5, 1);
        faulty("damp 257;", 5, 1);
        faulty("100", 0, 1);
        faulty("damp 1 100", 7, 1);
        faulty("damp 1;100", 7, 1);
        faulty("1".repeat(160), 0, 1);
        faulty("damp" + "0".repeat(156), 4, 1);
    }

    private static void misplaced() {
        Edges.says(Edges.TERMS, "2 a TOKEN that can not stand there (a NAME that begins no line; or the end: the length).");
        faulty("gull", 0, 2);
        faulty("a", 0, 2);
        faulty("z".repeat(160), 0, 2);
        faulty("damp 1;  gull 1;", 9, 2);
        faulty(";", 0, 2);
        faulty("12", 0, 2);
        faulty("damp gull", 5, 2);
        faulty("damp 1 gull", 7, 2);
        faulty("damp", 4, 2);
        faulty("damp    ", 8, 2);
        faulty("damp 1", 6, 2);
        faulty("damp 1    ", 10, 2);
        faulty("ask 1", 5, 2);
        faulty("theology 1 1", 12, 2);
        faulty(Edges.blanks(155) + "ask 1", 160, 2);
        faulty("ask 1" + Edges.blanks(155), 160, 2);
    }

    private static void outOfBounds() {
        Edges.says(Edges.TERMS, "3 a NUMBER out of its bounds.");
        told("fellow 9;", 1, 0);
        faulty("fellow 10;", 7, 3);
        faulty("fellow 99;", 7, 3);
        told("fellow 0;", 1, 0);
        for (String kind : KINDS) {
            int at = kind.length() + 1;
            String four = "fellow1;fellow1;fellow1;fellow1;";
            told(four + kind + " 0 0 0;", 5, 0);
            told(four + kind + " 9 99 3;", 5, 0);
            faulty(four + kind + " 10 99 3;", 32 + at, 3);
            faulty(four + kind + " 99 99 3;", 32 + at, 3);
            faulty(four + kind + " 9 100 3;", 32 + at + 2, 1);
            faulty(four + kind + " 9 99 4;", 32 + at + 5, 3);
            faulty(four + kind + " 9 99 99;", 32 + at + 5, 3);
        }
        told("damp 0;", 1, 0);
        told("damp 9;", 1, 0);
        faulty("damp 10;", 5, 3);
        faulty("bite 0;", 5, 3);
        faulty("bite 00;", 5, 3);
        told("bite 1;", 1, 0);
        told("bite 20;", 1, 0);
        faulty("bite 21;", 5, 3);
        told("ask 0 0;", 1, 0);
        told("ask 99 9;", 1, 0);
        faulty("ask 100 9;", 4, 1);
        faulty("ask 99 10;", 7, 3);
        // the bounds are those of this line, not of the one before
        faulty("bite 20;damp 20;", 13, 3);
        told("bite 1;damp 0;", 2, 0);
    }

    private static void secondTime() {
        Edges.says(Edges.TERMS, "4 damp, bite for the second time (its NAME).");
        told("damp 1;bite 1;", 2, 0);
        told("bite 1;damp 1;", 2, 0);
        faulty("damp 1;damp 1;", 7, 4);
        faulty("damp 1;damp", 7, 4);
        faulty("bite 1;bite 1;", 7, 4);
        faulty("bite 1;bite", 7, 4);
        faulty("damp 2;bite 5;  damp 2;", 16, 4);
        faulty("bite 5;damp 2;  bite 5;", 16, 4);
        // the first time in each text
        BiscuitLore x = Edges.of("damp 3;bite 3;");
        Edges.feedAll(x, "damp 4;bite 4;");
        Edges.due(x.text(), 2);
        Edges.due(x.rule(2), 4);
        Edges.feedAll(x, "damp 5;damp");
        Edges.due(x.text(), -17);
        Edges.feedAll(x, "damp 6;");
        Edges.due(x.text(), 1);
        Edges.due(x.rule(2), 6);
    }

    private static void tooMany() {
        Edges.says(Edges.TERMS, "5 the 5th fellow, the 7th BISCUIT, the 7th ask (its NAME).");
        told("fellow 1;".repeat(4), 4, 0);
        faulty("fellow 1;".repeat(5), 36, 5);
        faulty("fellow 1;".repeat(4) + "fellow", 36, 5);
        faulty("fellow 1;".repeat(4) + " fellow 10", 37, 5);
        String six = "plain 1 1 0;law 1 1 0;arts 1 1 0;theology 1 1 0;law 1 1 0;law 1 1 0;";
        told(six + "fellow 1;", 7, 0);
        for (String kind : KINDS) {
            faulty(six + kind + " 1 1 0;fellow 1;", six.length(), 5);
            faulty(six + kind, six.length(), 5);
            told((kind + " 1 1 0;").repeat(6) + "fellow 1;", 7, 0);
            faulty((kind + " 1 1 0;").repeat(6) + kind, 6 * (kind.length() + 7), 5);
        }
        told("ask 1 1;".repeat(6), 6, 0);
        faulty("ask 1 1;".repeat(7), 48, 5);
        faulty("ask 1 1;".repeat(6) + "ask 100", 48, 5);
        // what there was does not count
        BiscuitLore x = Edges.of(Edges.ALL);
        Edges.feedAll(x, Edges.ALL);
        Edges.due(x.text(), 18);
    }

    private static void noSuchFellow() {
        Edges.says(Edges.TERMS, "Behind all (the length): 6 a FELLOW that there is not.");
        for (int fellows = 0; fellows <= 4; fellows++) {
            String told = "fellow 1;".repeat(fellows);
            for (int whose = 0; whose <= 3; whose++) {
                String line = "law 1 1 " + whose + ";";
                if (whose < fellows) {
                    told(line + told, fellows + 1, 0);
                    told(told + line, fellows + 1, 0);
                } else {
                    faulty(line + told, 10 + 9 * fellows, 6);
                    faulty(told + line + "  ", 12 + 9 * fellows, 6);
                }
            }
        }
        // any of them
        String five = "law 1 1 0;law 1 1 0;law 1 1 0;law 1 1 0;law 1 1 0;";
        faulty("law 1 1 1;" + five + "fellow 1;", 69, 6);
        faulty(five + "law 1 1 1;fellow 1;", 69, 6);
        faulty("law 1 1 0;" + Edges.blanks(150), 160, 6);
        // every other FAULT is met ahead of it
        faulty("law 1 1 0;gull", 10, 2);
        faulty("law 1 1 0;damp", 14, 2);
        faulty("law 1 1 0;damp 1;damp 1;", 17, 4);
        // what there was does not count
        BiscuitLore x = Edges.of("fellow 1;");
        Edges.feedAll(x, "law 1 1 0;");
        Edges.due(x.text(), -20);
        Edges.due(x.fault(), 6);
        Edges.due(x.rule(0), 1);
    }

    private static void inPlace() {
        Edges.says(Edges.TERMS, "A text that is taken tells all, in place of what there was; nothing is SEEN; IMAGES are gone.");
        for (String text : new String[] {"", "fellow 1;"}) {
            BiscuitLore x = Edges.of(Edges.ALL);
            x.days(30);
            x.keep(0);
            x.keep(1);
            for (int i = 0; i < 6; i++) x.see(i, 0, 0, true);
            x.sheet(0, 1, 17);
            x.read(1, 0, 0, 1);
            Edges.feedAll(x, text);
            int lines = text.isEmpty() ? 0 : 1;
            Edges.due(x.text(), lines);
            Edges.inside(x::rule, 0, lines, 0, 2, 5, 0, 0, 0);
            Edges.due(x.fellow(0, 3), lines == 0 ? Edges.BAD : 0);
            Edges.inside(x::count, 0, 0, 0, 0, 17, lines, 0);
            Edges.due(x.question(0, 0), Edges.BAD);
            Edges.due(x.back(0), Edges.STATE);
            Edges.due(x.back(1), Edges.STATE);
            Edges.due(x.torn(), 1);
            Edges.due(x.see(0, 0, 0, true), lines == 0 ? Edges.BAD : 1);
        }
        // what is refused leaves what is SEEN, and IMAGES
        BiscuitLore y = Edges.of("fellow 1;");
        y.keep(1);
        y.see(0, 0, 0, true);
        y.feed('?');
        Edges.due(y.text(), -10);
        Edges.due(y.count(0), 1);
        Edges.due(y.count(1), 1);
        Edges.due(y.back(1), 0);
    }
}
