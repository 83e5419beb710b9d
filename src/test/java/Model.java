import java.math.BigInteger;
import java.util.ArrayList;
import java.util.List;
import java.util.regex.Matcher;
import java.util.regex.Pattern;

/**
 * The document told a second time, as slowly and plainly as may be, to hold BiscuitLore against.
 * Every answer is got by trying all that there is; sheets are real rows, and their faults are the machine's own.
 */
final class Model {
    static final int BAD = -1, STATE = -2, FULL = -3, NONE = -4;

    static final class Cake {
        int kind, subject, crumbs, whose;

        Cake(int kind, int subject, int crumbs, int whose) {
            this.kind = kind;
            this.subject = subject;
            this.crumbs = crumbs;
            this.whose = whose;
        }
    }

    static final class World {
        List<int[]> fellows = new ArrayList<>();   // appetite, hunger
        List<Cake> cakes = new ArrayList<>();
        List<int[]> questions = new ArrayList<>(); // day, subject
        int damp = 2, bite = 5, day = 0;

        World copy() {
            World w = new World();
            for (int[] f : fellows) w.fellows.add(f.clone());
            for (Cake c : cakes) w.cakes.add(new Cake(c.kind, c.subject, c.crumbs, c.whose));
            for (int[] q : questions) w.questions.add(q.clone());
            w.damp = damp;
            w.bite = bite;
            w.day = day;
            return w;
        }

        int spoils(Cake c) {
            int[] by = {damp / 2, damp / 2 / 2, damp / 2 + 1, (damp / 2 + 1) * 2};
            return Math.min(c.crumbs, by[c.kind]);
        }

        boolean knows(int f, int s) {
            return cakes.stream().anyMatch(c -> c.whose == f && c.subject == s && c.crumbs >= bite);
        }

        boolean anyKnows(int s) {
            for (int f = 0; f < fellows.size(); f++) if (knows(f, s)) return true;
            return false;
        }

        int lore(int f) {
            int bits = 0;
            for (int s = 0; s < 10; s++) if (knows(f, s)) bits += 1 << s;
            return bits;
        }

        int allLore() {
            int bits = 0;
            for (int s = 0; s < 10; s++) if (anyKnows(s)) bits += 1 << s;
            return bits;
        }

        int crumbs() {
            return cakes.stream().mapToInt(c -> c.crumbs).sum();
        }

        int hunger() {
            return fellows.stream().mapToInt(f -> f[1]).sum();
        }

        int answeredBits = 0;

        int day() {
            for (int i = 0; i < questions.size(); i++) {
                if (questions.get(i)[0] == day && anyKnows(questions.get(i)[1])) answeredBits |= 1 << i;
            }
            for (Cake c : cakes) c.crumbs -= spoils(c);
            int eaten = 0;
            for (int f = 0; f < fellows.size(); f++) {
                int ate = 0;
                // a crumb at a time, from the first of his that has one
                for (int bit = 0; bit < fellows.get(f)[0]; bit++) {
                    for (Cake c : cakes) {
                        if (c.whose == f && c.crumbs > 0) {
                            c.crumbs--;
                            ate++;
                            break;
                        }
                    }
                }
                if (ate < fellows.get(f)[0]) fellows.get(f)[1] = Math.min(999, fellows.get(f)[1] + 1);
                eaten += ate;
            }
            day++;
            return eaten;
        }

        World after(int n) {
            World w = copy();
            for (int i = 0; i < n; i++) w.day();
            return w;
        }

        int answers() {
            return Integer.bitCount(after(60).answeredBits);
        }
    }

    private World w = new World();
    private final World[] images = new World[2];
    private final StringBuilder tape = new StringBuilder();
    private final List<int[]> seen = new ArrayList<>();
    private final Object[] sheets = new Object[4];
    private int torn = 0;
    private int fault = 0;

    private static boolean out(int v, int lo, int hi) {
        return v < lo || v > hi;
    }

    private boolean noFellow(int f) {
        return out(f, 0, w.fellows.size() - 1);
    }

    private boolean noCake(int b) {
        return out(b, 0, w.cakes.size() - 1);
    }

    int feed(int c) {
        if (out(c, 0, 127)) return BAD;
        if (tape.length() == 160) return FULL;
        tape.append((char) c);
        return tape.length();
    }

    int end(int n) {
        if (out(n, 0, tape.length())) return BAD;
        int had = tape.length();
        tape.setLength(n);
        return had;
    }

    private static final class Wrong extends Exception {
        private static final long serialVersionUID = 1L;
        final int fault, place;

        Wrong(int fault, int place) {
            this.fault = fault;
            this.place = place;
        }
    }

    private static final Pattern TOKEN = Pattern.compile("[a-z]+|[0-9]+|;");

    private String text;
    private int at;
    private int tokenAt;

    private String token() throws Wrong {
        while (at < text.length() && text.charAt(at) == ' ') at++;
        tokenAt = at;
        if (at == text.length()) return "";
        Matcher m = TOKEN.matcher(text).region(at, text.length());
        if (!m.lookingAt()) throw new Wrong(1, at);
        String t = m.group();
        if (Character.isDigit(t.charAt(0)) && t.length() > 2) throw new Wrong(1, at);
        at = m.end();
        return t;
    }

    private int number(int lo, int hi) throws Wrong {
        String t = token();
        if (t.isEmpty() || !Character.isDigit(t.charAt(0))) throw new Wrong(2, tokenAt);
        int v = Integer.parseInt(t);
        if (out(v, lo, hi)) throw new Wrong(3, tokenAt);
        return v;
    }

    private World parse(int[] lines) throws Wrong {
        World to = new World();
        boolean damp = false;
        boolean bite = false;
        for (;;) {
            String name = token();
            int nameAt = tokenAt;
            if (name.isEmpty()) break;
            int kind = List.of("plain", "law", "arts", "theology").indexOf(name);
            if (kind >= 0) {
                if (to.cakes.size() == 6) throw new Wrong(5, nameAt);
                int s = number(0, 9);
                int crumbs = number(0, 99);
                to.cakes.add(new Cake(kind, s, crumbs, number(0, 3)));
            } else if (name.equals("fellow")) {
                if (to.fellows.size() == 4) throw new Wrong(5, nameAt);
                to.fellows.add(new int[] {number(0, 9), 0});
            } else if (name.equals("damp")) {
                if (damp) throw new Wrong(4, nameAt);
                damp = true;
                to.damp = number(0, 9);
            } else if (name.equals("bite")) {
                if (bite) throw new Wrong(4, nameAt);
                bite = true;
                to.bite = number(1, 20);
            } else if (name.equals("ask")) {
                if (to.questions.size() == 6) throw new Wrong(5, nameAt);
                int day = number(0, 99);
                to.questions.add(new int[] {day, number(0, 9)});
            } else {
                throw new Wrong(2, nameAt);
            }
            if (!token().equals(";")) throw new Wrong(2, tokenAt);
            lines[0]++;
        }
        for (Cake c : to.cakes) if (c.whose >= to.fellows.size()) throw new Wrong(6, text.length());
        return to;
    }

    int text() {
        text = tape.toString();
        tape.setLength(0);
        at = 0;
        int[] lines = {0};
        try {
            w = parse(lines);
            fault = 0;
        } catch (Wrong wrong) {
            fault = wrong.fault;
            return -10 - wrong.place;
        }
        seen.clear();
        images[0] = null;
        images[1] = null;
        return lines[0];
    }

    int fault() {
        return fault;
    }

    int rule(int what) {
        if (out(what, 0, 6)) return BAD;
        return new int[] {w.fellows.size(), w.cakes.size(), w.damp, w.bite, w.day, w.crumbs(), w.allLore()}[what];
    }

    int fellow(int f, int what) {
        if (noFellow(f) || out(what, 0, 4)) return BAD;
        int crumbs = 0;
        int his = 0;
        for (int b = 0; b < w.cakes.size(); b++) {
            if (w.cakes.get(b).whose == f) {
                crumbs += w.cakes.get(b).crumbs;
                his += 1 << b;
            }
        }
        return new int[] {w.fellows.get(f)[0], w.lore(f), crumbs, w.fellows.get(f)[1], his}[what];
    }

    int biscuit(int b, int what) {
        if (noCake(b) || out(what, 0, 4)) return BAD;
        Cake c = w.cakes.get(b);
        return new int[] {c.kind, c.subject, c.crumbs, c.whose, w.spoils(c)}[what];
    }

    int question(int i, int what) {
        if (out(i, 0, w.questions.size() - 1) || out(what, 0, 1)) return BAD;
        return w.questions.get(i)[what];
    }

    int knows(int s) {
        if (out(s, 0, 9)) return BAD;
        int bits = 0;
        for (int f = 0; f < w.fellows.size(); f++) if (w.knows(f, s)) bits += 1 << f;
        return bits;
    }

    int alter(int b, int what, int v) {
        if (noCake(b) || out(what, 0, 3)) return BAD;
        int[] most = {3, 9, 99, w.fellows.size() - 1};
        if (out(v, 0, most[what])) return BAD;
        int was = biscuit(b, what);
        Cake c = w.cakes.get(b);
        if (what == 0) c.kind = v;
        if (what == 1) c.subject = v;
        if (what == 2) c.crumbs = v;
        if (what == 3) c.whose = v;
        return was;
    }

    int diet(int f, int v) {
        if (noFellow(f) || out(v, 0, 9)) return BAD;
        int was = w.fellows.get(f)[0];
        w.fellows.get(f)[0] = v;
        return was;
    }

    int damp(int v) {
        if (out(v, 0, 9)) return BAD;
        int was = w.damp;
        w.damp = v;
        return was;
    }

    int bite(int v) {
        if (out(v, 1, 20)) return BAD;
        int was = w.bite;
        w.bite = v;
        return was;
    }

    int pose(int day, int s) {
        if (out(day, 0, 99) || out(s, 0, 9)) return BAD;
        if (w.questions.size() == 6) return FULL;
        w.questions.add(new int[] {day, s});
        return w.questions.size();
    }

    int drop(int n) {
        int were = w.questions.size();
        if (out(n, 0, were)) return BAD;
        w.questions.subList(n, were).clear();
        return were;
    }

    int bake(int kind, int s, int crumbs, int f) {
        if (out(kind, 0, 3) || out(s, 0, 9) || out(crumbs, 0, 99) || noFellow(f)) return BAD;
        if (w.cakes.size() == 6) return FULL;
        w.cakes.add(new Cake(kind, s, crumbs, f));
        return w.cakes.size();
    }

    int days(int n) {
        if (out(n, 0, 30)) return BAD;
        if (w.day + n >= 1000) return FULL;
        int eaten = 0;
        for (int i = 0; i < n; i++) eaten += w.day();
        w.answeredBits = 0;
        return eaten;
    }

    int runs(int n, int what) {
        if (out(n, 0, 60) || out(what, 0, 3)) return BAD;
        World t = w.after(n);
        return new int[] {t.crumbs(), t.allLore(), t.hunger() - w.hunger(), t.answeredBits}[what];
    }

    int ahead(int f, int n) {
        if (noFellow(f) || out(n, 0, 60)) return BAD;
        return w.after(n).lore(f);
    }

    int lasts(int s) {
        if (out(s, 0, 9)) return BAD;
        for (int n = 0; n <= 60; n++) if (!w.after(n).anyKnows(s)) return n;
        return NONE;
    }

    int starves(int f) {
        if (noFellow(f)) return BAD;
        for (int n = 0; n <= 60; n++) if (w.after(n).fellows.get(f)[1] > w.fellows.get(f)[1]) return n;
        return NONE;
    }

    int need(int b, int n) {
        if (noCake(b) || out(n, 0, 60)) return BAD;
        for (int crumbs = 0; crumbs <= 99; crumbs++) {
            World t = w.copy();
            Cake c = t.cakes.get(b);
            c.crumbs = crumbs;
            if (t.after(n).knows(c.whose, c.subject)) return crumbs;
        }
        return NONE;
    }

    int thrift(int f, int what) {
        if (noFellow(f) || out(what, 0, 1)) return BAD;
        int best = 0;
        int most = -1;
        for (int v = 0; v <= 9; v++) {
            World t = w.copy();
            t.fellows.get(f)[0] = v;
            if (t.answers() >= most) {
                most = t.answers();
                best = v;
            }
        }
        return what == 0 ? best : most;
    }

    int heir(int b, int what) {
        if (noCake(b) || out(what, 0, 1)) return BAD;
        int best = 0;
        int most = -1;
        for (int f = w.fellows.size() - 1; f >= 0; f--) {
            World t = w.copy();
            t.cakes.get(b).whose = f;
            if (t.answers() >= most) {
                most = t.answers();
                best = f;
            }
        }
        return what == 0 ? best : most;
    }

    int swap(int what) {
        if (out(what, 0, 1)) return BAD;
        int best = NONE;
        int most = w.answers();
        for (int two = 1; two <= 56; two++) {
            int a = two / 10;
            int b = two % 10;
            if (a >= b || b >= w.cakes.size()) continue;
            World t = w.copy();
            Cake c = t.cakes.get(a);
            t.cakes.set(a, t.cakes.get(b));
            t.cakes.set(b, c);
            if (t.answers() > most) {
                most = t.answers();
                best = two;
            }
        }
        if (best == NONE) return NONE;
        return what == 0 ? best : most;
    }

    int wise(int n, int what) {
        if (out(n, 0, 60) || out(what, 0, 1)) return BAD;
        if (w.fellows.isEmpty()) return NONE;
        World t = w.after(n);
        int best = 0;
        for (int f = 1; f < t.fellows.size(); f++) {
            if (Integer.bitCount(t.lore(f)) > Integer.bitCount(t.lore(best))) best = f;
        }
        return what == 0 ? best : Integer.bitCount(t.lore(best));
    }

    int chew(int what) {
        if (out(what, 0, 1)) return BAD;
        int best = 1;
        int most = -1;
        for (int v = 1; v <= 20; v++) {
            World t = w.copy();
            t.bite = v;
            if (t.answers() >= most) {
                most = t.answers();
                best = v;
            }
        }
        return what == 0 ? best : most;
    }

    private interface Worth {
        int of(World t);
    }

    private long odds(int v, int n, int what, Worth worth) {
        BigInteger sum = BigInteger.ZERO;
        for (int mask = 0; mask < 1 << n; mask++) {
            World t = w.copy();
            BigInteger weight = BigInteger.ONE;
            for (int i = 0; i < n; i++) {
                boolean wet = (mask >> i & 1) == 1;
                t.damp = wet ? 9 : w.damp;
                weight = weight.multiply(BigInteger.valueOf(wet ? v : 10 - v));
                t.day();
            }
            sum = sum.add(weight.multiply(BigInteger.valueOf(worth.of(t))));
        }
        BigInteger all = BigInteger.TEN.pow(n);
        BigInteger common = sum.gcd(all);
        return (what == 0 ? sum : all).divide(common).longValueExact();
    }

    long luck(int v, int f, int s, int n, int what) {
        if (out(v, 0, 10) || noFellow(f) || out(s, 0, 9) || out(n, 0, 8) || out(what, 0, 1)) return BAD;
        return odds(v, n, what, t -> t.knows(f, s) ? 1 : 0);
    }

    long mean(int v, int n, int what) {
        if (out(v, 0, 10) || out(n, 0, 8) || out(what, 0, 1)) return BAD;
        return odds(v, n, what, World::crumbs);
    }

    int see(int n, int f, int s, boolean is) {
        if (out(n, 0, 30) || noFellow(f) || out(s, 0, 9)) return BAD;
        if (seen.size() == 6) return FULL;
        seen.add(new int[] {n, f, s, is ? 1 : 0});
        return seen.size();
    }

    int forget(int n) {
        int were = seen.size();
        if (out(n, 0, were)) return BAD;
        seen.subList(n, were).clear();
        return were;
    }

    private boolean asSeen(World t) {
        for (int[] x : seen) if (t.after(x[0]).knows(x[1], x[2]) != (x[3] == 1)) return false;
        return true;
    }

    int kinds(int b) {
        if (noCake(b)) return BAD;
        int bits = 0;
        for (int kind = 0; kind < 4; kind++) {
            World t = w.copy();
            t.cakes.get(b).kind = kind;
            if (asSeen(t)) bits += 1 << kind;
        }
        return bits;
    }

    int subjects(int b) {
        if (noCake(b)) return BAD;
        int bits = 0;
        for (int s = 0; s < 10; s++) {
            World t = w.copy();
            t.cakes.get(b).subject = s;
            if (asSeen(t)) bits += 1 << s;
        }
        return bits;
    }

    int ask(int b, int what) {
        if (noCake(b) || out(what, 0, 1)) return BAD;
        int left = kinds(b);
        int best = NONE;
        int fewest = Integer.bitCount(left);
        for (int n = 0; n <= 30; n++) {
            for (int f = 0; f < w.fellows.size(); f++) {
                int yes = 0;
                int no = 0;
                for (int kind = 0; kind < 4; kind++) {
                    if ((left >> kind & 1) == 0) continue;
                    World t = w.copy();
                    t.cakes.get(b).kind = kind;
                    if (t.after(n).knows(f, t.cakes.get(b).subject)) yes++;
                    else no++;
                }
                if (Math.max(yes, no) < fewest) {
                    fewest = Math.max(yes, no);
                    best = 10 * n + f;
                }
            }
        }
        if (best == NONE) return NONE;
        return what == 0 ? best : fewest;
    }

    int drift(int seed, int n, int what) {
        if (out(n, 1, 60) || out(what, 0, 1)) return BAD;
        if (w.cakes.isEmpty()) return STATE;
        World t = w.copy();
        BigInteger x = BigInteger.valueOf(seed);
        for (int i = 0; i < n; i++) {
            x = x.multiply(BigInteger.valueOf(1103515245)).add(BigInteger.valueOf(12345)).mod(BigInteger.ONE.shiftLeft(32));
            int got = x.shiftRight(16).intValue() % 32768;
            t.cakes.get(got % t.cakes.size()).whose = got / 8 % t.fellows.size();
            t.damp = got / 64 % 10;
            t.day();
        }
        return what == 0 ? t.crumbs() : t.hunger() - w.hunger();
    }

    int keep(int k) {
        if (out(k, 0, 1)) return BAD;
        int was = images[k] == null ? 0 : 1;
        images[k] = w.copy();
        return was;
    }

    int back(int k) {
        if (out(k, 0, 1)) return BAD;
        if (images[k] == null) return STATE;
        w = images[k].copy();
        return w.day;
    }

    int sheet(int k, int lane, int n) {
        if (out(k, 0, 3) || out(lane, 0, 2) || n > 40) return BAD;
        try {
            sheets[k] = lane == 0 ? new byte[n] : lane == 1 ? new short[n] : new int[n];
        } catch (NegativeArraySizeException e) {
            return -14;
        }
        return 1;
    }

    int lay(int k, int i, int v) {
        if (out(k, 0, 3)) return BAD;
        try {
            if (sheets[k] instanceof byte[]) ((byte[]) sheets[k])[i] = (byte) v;
            else if (sheets[k] instanceof short[]) ((short[]) sheets[k])[i] = (short) v;
            else ((int[]) sheets[k])[i] = v;
        } catch (NullPointerException e) {
            return -11;
        } catch (ArrayIndexOutOfBoundsException e) {
            return -12;
        }
        return 1;
    }

    private int cell(int k, int lane, int i) {
        return lane == 0 ? ((byte[]) sheets[k])[i] : lane == 1 ? ((short[]) sheets[k])[i] : ((int[]) sheets[k])[i];
    }

    int read(int k, int lane, int f, int n) {
        if (out(k, 0, 3) || out(lane, 0, 2) || out(n, 0, 10)) return BAD;
        World before = w.copy();
        int found = 0;
        int came = 0;
        try {
            for (int i = 0; i < n; i++) {
                int[] four = new int[4];
                for (int j = 0; j < 4; j++) four[j] = cell(k, lane, f + 4 * i + j);
                if (bake(four[0], four[1], four[2], four[3]) < 0) {
                    w = before;
                    return -20 - i;
                }
                came++;
            }
        } catch (NullPointerException e) {
            found = 1;
        } catch (ArrayIndexOutOfBoundsException e) {
            found = 2;
        } catch (ClassCastException e) {
            found = 3;
        }
        torn = found;
        return came;
    }

    int torn() {
        return torn;
    }

    int count(int what) {
        switch (what) {
            case 0: return seen.size();
            case 1: return (images[0] == null ? 0 : 1) + (images[1] == null ? 0 : 1);
            case 2: return tape.length();
            case 3: return sheets[0] == null ? NONE : java.lang.reflect.Array.getLength(sheets[0]);
            case 4: return w.fellows.stream().mapToInt(f -> f[0]).sum();
            case 5: return w.questions.size();
            default: return BAD;
        }
    }
}
