/** The degrees of a sea university: biscuits that fellows live on, and know by as long as they last. */
public final class BiscuitLore {
    public static final int BAD = -1, STATE = -2, FULL = -3, NONE = -4;

    private static final int MOST_FELLOWS = 4, MOST_BISCUITS = 6, MOST_QUESTIONS = 6, MOST_SEEN = 6;
    private static final int MOST_KIND = 3, MOST_SUBJECT = 9, MOST_CRUMBS = 99, MOST_APPETITE = 9;
    private static final int MOST_DAMP = 9, LEAST_BITE = 1, MOST_BITE = 20, MOST_HUNGER = 999;
    private static final int MOST_ASK_DAY = 99, DAY_LIMIT = 1000;
    private static final int MOST_LIVED = 30, MOST_RUN = 60, MOST_LUCK = 8, MOST_SEEN_DAY = 30;
    private static final int MOST_BYTES = 160, MOST_CELLS = 40, MOST_READ = 10, CELLS_EACH = 4;
    private static final int SHEETS = 4, IMAGES = 2, LANES = 3;
    private static final int NULL = 1, INDEX = 2, CAST = 3, SIZE = 4;

    private final Tape tape = new Tape();
    private final Larder now = new Larder();
    // What would be is tried out here, so that no call makes rows of its own.
    private final Larder trial = new Larder();
    private final Larder[] images = new Larder[IMAGES];
    private final boolean[] kept = new boolean[IMAGES];
    private final Sight seen = new Sight();
    private final Sheet[] sheets = new Sheet[SHEETS];
    private final int[][] crumbsAt = new int[MOST_LUCK][MOST_BISCUITS];
    private final int[] knewAt = new int[(MOST_SEEN_DAY + 1) * MOST_FELLOWS];
    private int tear;

    public BiscuitLore() {
        for (int k = 0; k < IMAGES; k++) {
            images[k] = new Larder();
        }
        for (int k = 0; k < SHEETS; k++) {
            sheets[k] = new Sheet();
        }
    }

    // ---- the text, what there is

    public int feed(int c) {
        if (!within(c, 0, 127)) {
            return BAD;
        }
        if (tape.length >= MOST_BYTES) {
            return FULL;
        }
        tape.bytes[tape.length] = (byte) c;
        tape.length++;
        return tape.length;
    }

    public int end(int n) {
        if (!within(n, 0, tape.length)) {
            return BAD;
        }
        int had = tape.length;
        tape.length = n;
        return had;
    }

    public int text() {
        boolean taken = tape.tell(trial);
        tape.length = 0;
        if (!taken) {
            return -10 - tape.place;
        }
        now.take(trial);
        seen.many = 0;
        for (int k = 0; k < IMAGES; k++) {
            kept[k] = false;
        }
        return tape.lines;
    }

    public int fault() {
        return tape.fault;
    }

    public int rule(int what) {
        switch (what) {
            case 0: return now.fellows;
            case 1: return now.biscuits;
            case 2: return now.damp;
            case 3: return now.bite;
            case 4: return now.day;
            case 5: return now.allCrumbs();
            case 6: return now.allLore();
            default: return BAD;
        }
    }

    public int fellow(int f, int what) {
        if (!now.hasFellow(f)) {
            return BAD;
        }
        switch (what) {
            case 0: return now.appetite[f];
            case 1: return now.loreOf(f);
            case 2: return now.crumbsOf(f);
            case 3: return now.hunger[f];
            case 4: return now.ownedBy(f);
            default: return BAD;
        }
    }

    public int biscuit(int b, int what) {
        if (!now.hasBiscuit(b)) {
            return BAD;
        }
        switch (what) {
            case 0: return now.kind[b];
            case 1: return now.subject[b];
            case 2: return now.crumbs[b];
            case 3: return now.whose[b];
            case 4: return now.spoilOf(b);
            default: return BAD;
        }
    }

    public int question(int i, int what) {
        if (!within(i, 0, now.questions - 1) || !isHalf(what)) {
            return BAD;
        }
        return what == 0 ? now.askDay[i] : now.askSubject[i];
    }

    public int knows(int s) {
        if (!within(s, 0, MOST_SUBJECT)) {
            return BAD;
        }
        return now.knowersOf(s);
    }

    // ---- what is changed

    public int alter(int b, int what, int v) {
        if (!now.hasBiscuit(b)) {
            return BAD;
        }
        switch (what) {
            case 0: return put(now.kind, b, v, MOST_KIND);
            case 1: return put(now.subject, b, v, MOST_SUBJECT);
            case 2: return put(now.crumbs, b, v, MOST_CRUMBS);
            case 3: return put(now.whose, b, v, now.fellows - 1);
            default: return BAD;
        }
    }

    public int diet(int f, int v) {
        if (!now.hasFellow(f)) {
            return BAD;
        }
        return put(now.appetite, f, v, MOST_APPETITE);
    }

    public int damp(int v) {
        if (!within(v, 0, MOST_DAMP)) {
            return BAD;
        }
        int was = now.damp;
        now.damp = v;
        return was;
    }

    public int bite(int v) {
        if (!within(v, LEAST_BITE, MOST_BITE)) {
            return BAD;
        }
        int was = now.bite;
        now.bite = v;
        return was;
    }

    public int pose(int day, int s) {
        if (!within(day, 0, MOST_ASK_DAY) || !within(s, 0, MOST_SUBJECT)) {
            return BAD;
        }
        return now.addQuestion(day, s) ? now.questions : FULL;
    }

    public int drop(int n) {
        if (!within(n, 0, now.questions)) {
            return BAD;
        }
        int were = now.questions;
        now.questions = n;
        return were;
    }

    public int bake(int kind, int s, int crumbs, int f) {
        if (!within(kind, 0, MOST_KIND) || !within(s, 0, MOST_SUBJECT)
                || !within(crumbs, 0, MOST_CRUMBS) || !now.hasFellow(f)) {
            return BAD;
        }
        return now.addBiscuit(kind, s, crumbs, f) ? now.biscuits : FULL;
    }

    // ---- days

    public int days(int n) {
        if (!within(n, 0, MOST_LIVED)) {
            return BAD;
        }
        if (now.day + n >= DAY_LIMIT) {
            return FULL;
        }
        int eaten = 0;
        for (int d = 0; d < n; d++) {
            eaten += now.live();
        }
        return eaten;
    }

    public int runs(int n, int what) {
        if (!within(n, 0, MOST_RUN) || !within(what, 0, 3)) {
            return BAD;
        }
        trial.take(now);
        int answered = tryDays(n);
        switch (what) {
            case 0: return trial.allCrumbs();
            case 1: return trial.allLore();
            case 2: return trial.allHunger() - now.allHunger();
            default: return answered;
        }
    }

    public int ahead(int f, int n) {
        if (!now.hasFellow(f) || !within(n, 0, MOST_RUN)) {
            return BAD;
        }
        trial.take(now);
        tryDays(n);
        return trial.loreOf(f);
    }

    public int lasts(int s) {
        if (!within(s, 0, MOST_SUBJECT)) {
            return BAD;
        }
        trial.take(now);
        for (int d = 0; d <= MOST_RUN; d++) {
            if (trial.knowersOf(s) == 0) {
                return d;
            }
            trial.live();
        }
        return NONE;
    }

    public int starves(int f) {
        if (!now.hasFellow(f)) {
            return BAD;
        }
        trial.take(now);
        for (int d = 0; d <= MOST_RUN; d++) {
            if (trial.hunger[f] > now.hunger[f]) {
                return d;
            }
            trial.live();
        }
        return NONE;
    }

    // ---- what is best

    public int need(int b, int n) {
        if (!now.hasBiscuit(b) || !within(n, 0, MOST_RUN)) {
            return BAD;
        }
        // More CRUMBS of one never leave less of any behind a DAY, so those that are too few all stand ahead
        // of those that do, and halving finds how many are too few.
        int tooFew = 0;
        for (int step = 64; step > 0; step /= 2) {
            if (tooFew + step <= MOST_CRUMBS + 1 && !isKnownBy(b, tooFew + step - 1, n)) {
                tooFew += step;
            }
        }
        return tooFew > MOST_CRUMBS ? NONE : tooFew;
    }

    public int thrift(int f, int what) {
        if (!now.hasFellow(f) || !isHalf(what)) {
            return BAD;
        }
        int best = 0;
        int most = -1;
        for (int v = MOST_APPETITE; v >= 0; v--) {
            trial.take(now);
            trial.appetite[f] = v;
            int many = countAnswered();
            if (many > most) {
                most = many;
                best = v;
            }
        }
        return what == 0 ? best : most;
    }

    public int heir(int b, int what) {
        if (!now.hasBiscuit(b) || !isHalf(what)) {
            return BAD;
        }
        int best = 0;
        int most = -1;
        for (int f = 0; f < now.fellows; f++) {
            trial.take(now);
            trial.whose[b] = f;
            int many = countAnswered();
            if (many > most) {
                most = many;
                best = f;
            }
        }
        return what == 0 ? best : most;
    }

    public int swap(int what) {
        if (!isHalf(what)) {
            return BAD;
        }
        trial.take(now);
        int most = countAnswered();
        int best = NONE;
        for (int a = 0; a < now.biscuits; a++) {
            for (int b = a + 1; b < now.biscuits; b++) {
                trial.take(now);
                trial.exchange(a, b);
                int many = countAnswered();
                if (many > most) {
                    most = many;
                    best = 10 * a + b;
                }
            }
        }
        return what == 0 || best == NONE ? best : most;
    }

    public int wise(int n, int what) {
        if (!within(n, 0, MOST_RUN) || !isHalf(what)) {
            return BAD;
        }
        trial.take(now);
        tryDays(n);
        int best = NONE;
        int most = -1;
        for (int f = 0; f < trial.fellows; f++) {
            int many = Integer.bitCount(trial.loreOf(f));
            if (many > most) {
                most = many;
                best = f;
            }
        }
        return what == 0 || best == NONE ? best : most;
    }

    public int chew(int what) {
        if (!isHalf(what)) {
            return BAD;
        }
        int best = MOST_BITE;
        int most = -1;
        for (int v = MOST_BITE; v >= LEAST_BITE; v--) {
            trial.take(now);
            trial.bite = v;
            int many = countAnswered();
            if (many > most) {
                most = many;
                best = v;
            }
        }
        return what == 0 ? best : most;
    }

    // ---- damp days

    public long luck(int v, int f, int s, int n, int what) {
        if (!areOdds(v, n, what) || !now.hasFellow(f) || !within(s, 0, MOST_SUBJECT)) {
            return BAD;
        }
        trial.take(now);
        return partOf(weigh(0, n, v, f, s), powerOfTen(n), what);
    }

    public long mean(int v, int n, int what) {
        if (!areOdds(v, n, what)) {
            return BAD;
        }
        trial.take(now);
        return partOf(weigh(0, n, v, NONE, NONE), powerOfTen(n), what);
    }

    // ---- what it was

    public int see(int n, int f, int s, boolean is) {
        if (!within(n, 0, MOST_SEEN_DAY) || !now.hasFellow(f) || !within(s, 0, MOST_SUBJECT)) {
            return BAD;
        }
        return seen.add(n, f, s, is) ? seen.many : FULL;
    }

    public int forget(int n) {
        if (!within(n, 0, seen.many)) {
            return BAD;
        }
        int were = seen.many;
        seen.many = n;
        return were;
    }

    public int kinds(int b) {
        if (!now.hasBiscuit(b)) {
            return BAD;
        }
        return kindsLeft(b);
    }

    public int subjects(int b) {
        if (!now.hasBiscuit(b)) {
            return BAD;
        }
        int bits = 0;
        for (int s = 0; s <= MOST_SUBJECT; s++) {
            trial.take(now);
            trial.subject[b] = s;
            if (seen.fits(trial)) {
                bits |= 1 << s;
            }
        }
        return bits;
    }

    public int ask(int b, int what) {
        if (!now.hasBiscuit(b) || !isHalf(what)) {
            return BAD;
        }
        int left = kindsLeft(b);
        int many = Integer.bitCount(left);
        tallyKnowers(b, left);
        int best = NONE;
        int fewest = many;
        for (int d = 0; d <= MOST_SEEN_DAY; d++) {
            for (int f = 0; f < now.fellows; f++) {
                int knew = knewAt[d * MOST_FELLOWS + f];
                int worst = Math.max(knew, many - knew);
                if (worst < fewest) {
                    fewest = worst;
                    best = 10 * d + f;
                }
            }
        }
        return what == 0 || best == NONE ? best : fewest;
    }

    // ---- by a seed

    public int drift(int seed, int n, int what) {
        if (!within(n, 1, MOST_RUN) || !isHalf(what)) {
            return BAD;
        }
        if (now.biscuits <= 0 || now.fellows <= 0) {
            return STATE;
        }
        trial.take(now);
        int rolled = seed;
        for (int d = 0; d < n; d++) {
            rolled = rolled * 1103515245 + 12345;
            int got = (rolled >>> 16) & 0x7fff;
            trial.whose[got % now.biscuits] = got / 8 % now.fellows;
            trial.damp = got / 64 % (MOST_DAMP + 1);
            trial.live();
        }
        return what == 0 ? trial.allCrumbs() : trial.allHunger() - now.allHunger();
    }

    // ---- images, sheets

    public int keep(int k) {
        if (!within(k, 0, IMAGES - 1)) {
            return BAD;
        }
        int was = kept[k] ? 1 : 0;
        images[k].take(now);
        kept[k] = true;
        return was;
    }

    public int back(int k) {
        if (!within(k, 0, IMAGES - 1)) {
            return BAD;
        }
        if (!kept[k]) {
            return STATE;
        }
        now.take(images[k]);
        return now.day;
    }

    public int sheet(int k, int lane, int n) {
        if (!within(k, 0, SHEETS - 1) || !within(lane, 0, LANES - 1) || n > MOST_CELLS) {
            return BAD;
        }
        if (n < 0) {
            return -10 - SIZE;
        }
        sheets[k].renew(lane, n);
        return 1;
    }

    public int lay(int k, int i, int v) {
        if (!within(k, 0, SHEETS - 1)) {
            return BAD;
        }
        Sheet on = sheets[k];
        int found = on.faultAt(on.lane, i, 1);
        if (found != 0) {
            return -10 - found;
        }
        on.cells[i] = on.narrow(v);
        return 1;
    }

    public int read(int k, int lane, int f, int n) {
        if (!within(k, 0, SHEETS - 1) || !within(lane, 0, LANES - 1) || !within(n, 0, MOST_READ)) {
            return BAD;
        }
        Sheet from = sheets[k];
        int had = now.biscuits;
        int found = 0;
        int came = 0;
        while (came < n && found == 0) {
            // A SHEET that gave one ends at 40, so that f is small from the second on.
            int at = f + CELLS_EACH * came;
            found = from.faultAt(lane, at, CELLS_EACH);
            if (found == 0) {
                if (bake(from.cells[at], from.cells[at + 1], from.cells[at + 2], from.cells[at + 3]) < 0) {
                    now.biscuits = had;
                    return -20 - came;
                }
                came++;
            }
        }
        tear = found;
        return came;
    }

    public int torn() {
        return tear;
    }

    public int count(int what) {
        switch (what) {
            case 0: return seen.many;
            case 1: return (kept[0] ? 1 : 0) + (kept[1] ? 1 : 0);
            case 2: return tape.length;
            case 3: return sheets[0].there ? sheets[0].size : NONE;
            case 4: return now.allAppetites();
            case 5: return now.questions;
            default: return BAD;
        }
    }

    // ---- helpers of the calls

    private static boolean within(int v, int least, int most) {
        return v >= least && v <= most;
    }

    /** Whether it asks for the first or for the second half of an answer. */
    private static boolean isHalf(int what) {
        return what == 0 || what == 1;
    }

    private static boolean areOdds(int v, int n, int what) {
        return within(v, 0, 10) && within(n, 0, MOST_LUCK) && isHalf(what);
    }

    private static int put(int[] row, int i, int v, int most) {
        if (i < 0 || i >= row.length || !within(v, 0, most)) {
            return BAD;
        }
        int was = row[i];
        row[i] = v;
        return was;
    }

    /** The trial lives n DAYS: QUESTIONS that are ANSWERED in them (bits). */
    private int tryDays(int n) {
        int answered = 0;
        for (int d = 0; d < n; d++) {
            answered |= trial.answers();
            trial.live();
        }
        return answered;
    }

    private int countAnswered() {
        return Integer.bitCount(tryDays(MOST_RUN));
    }

    private boolean isKnownBy(int b, int crumbs, int n) {
        trial.take(now);
        trial.crumbs[b] = crumbs;
        tryDays(n);
        return trial.isKnower(trial.whose[b], trial.subject[b]);
    }

    private int kindsLeft(int b) {
        int bits = 0;
        for (int kind = 0; kind <= MOST_KIND; kind++) {
            trial.take(now);
            trial.kind[b] = kind;
            if (seen.fits(trial)) {
                bits |= 1 << kind;
            }
        }
        return bits;
    }

    /** By how many of these KINDS each FELLOW KNOWS the SUBJECT of a BISCUIT behind each number of DAYS. */
    private void tallyKnowers(int b, int left) {
        for (int i = 0; i < knewAt.length; i++) {
            knewAt[i] = 0;
        }
        for (int kind = 0; kind <= MOST_KIND; kind++) {
            if ((left >> kind & 1) == 1) {
                trial.take(now);
                trial.kind[b] = kind;
                tallyDays(trial.subject[b]);
            }
        }
    }

    private void tallyDays(int s) {
        for (int d = 0; d <= MOST_SEEN_DAY; d++) {
            int knowers = trial.knowersOf(s);
            for (int f = 0; f < MOST_FELLOWS; f++) {
                knewAt[d * MOST_FELLOWS + f] += knowers >> f & 1;
            }
            trial.live();
        }
    }

    /** What comes out behind n DAYS, of which some are gone, in parts of ten for each that is not. */
    private long weigh(int gone, int n, int v, int f, int s) {
        if (gone >= n || gone >= MOST_LUCK) {
            return outcome(f, s);
        }
        int[] before = crumbsAt[gone];
        System.arraycopy(trial.crumbs, 0, before, 0, MOST_BISCUITS);
        long sum = 0;
        if (v > 0) {
            trial.damp = MOST_DAMP;
            trial.live();
            sum += v * weigh(gone + 1, n, v, f, s);
        }
        if (v < 10) {
            System.arraycopy(before, 0, trial.crumbs, 0, MOST_BISCUITS);
            trial.damp = now.damp;
            trial.live();
            sum += (10 - v) * weigh(gone + 1, n, v, f, s);
        }
        return sum;
    }

    /** All CRUMBS, where no FELLOW is told; else 1 if he KNOWS the SUBJECT. */
    private long outcome(int f, int s) {
        if (f == NONE) {
            return trial.allCrumbs();
        }
        return trial.isKnower(f, s) ? 1 : 0;
    }

    private static long powerOfTen(int n) {
        long power = 1;
        for (int i = 0; i < n; i++) {
            power *= 10;
        }
        return power;
    }

    /** The numerator (what 0) or the denominator (1) in lowest terms. */
    private static long partOf(long above, long below, int what) {
        long greatest = below;
        long rest = above;
        // Euclid's way takes far fewer steps than this for any two longs.
        for (int i = 0; i < 200 && rest != 0; i++) {
            long next = greatest % rest;
            greatest = rest;
            rest = next;
        }
        if (greatest == 0) {
            return 0;
        }
        return (what == 0 ? above : below) / greatest;
    }

    /** FELLOWS, BISCUITS, DAMP, BITE, DAY and QUESTIONS: what DAYS change and IMAGES keep. */
    private static final class Larder {
        int fellows;
        final int[] appetite = new int[MOST_FELLOWS];
        final int[] hunger = new int[MOST_FELLOWS];
        int biscuits;
        final int[] kind = new int[MOST_BISCUITS];
        final int[] subject = new int[MOST_BISCUITS];
        final int[] crumbs = new int[MOST_BISCUITS];
        final int[] whose = new int[MOST_BISCUITS];
        int damp = 2;
        int bite = 5;
        int day;
        int questions;
        final int[] askDay = new int[MOST_QUESTIONS];
        final int[] askSubject = new int[MOST_QUESTIONS];

        void empty() {
            fellows = 0;
            biscuits = 0;
            questions = 0;
            damp = 2;
            bite = 5;
            day = 0;
        }

        void take(Larder from) {
            fellows = from.fellows;
            System.arraycopy(from.appetite, 0, appetite, 0, MOST_FELLOWS);
            System.arraycopy(from.hunger, 0, hunger, 0, MOST_FELLOWS);
            biscuits = from.biscuits;
            System.arraycopy(from.kind, 0, kind, 0, MOST_BISCUITS);
            System.arraycopy(from.subject, 0, subject, 0, MOST_BISCUITS);
            System.arraycopy(from.crumbs, 0, crumbs, 0, MOST_BISCUITS);
            System.arraycopy(from.whose, 0, whose, 0, MOST_BISCUITS);
            damp = from.damp;
            bite = from.bite;
            day = from.day;
            questions = from.questions;
            System.arraycopy(from.askDay, 0, askDay, 0, MOST_QUESTIONS);
            System.arraycopy(from.askSubject, 0, askSubject, 0, MOST_QUESTIONS);
        }

        boolean hasFellow(int f) {
            return f >= 0 && f < fellows;
        }

        boolean hasBiscuit(int b) {
            return b >= 0 && b < biscuits;
        }

        boolean addFellow(int eats) {
            if (fellows >= MOST_FELLOWS) {
                return false;
            }
            appetite[fellows] = eats;
            hunger[fellows] = 0;
            fellows++;
            return true;
        }

        boolean addBiscuit(int ofKind, int of, int size, int f) {
            if (biscuits >= MOST_BISCUITS) {
                return false;
            }
            kind[biscuits] = ofKind;
            subject[biscuits] = of;
            crumbs[biscuits] = size;
            whose[biscuits] = f;
            biscuits++;
            return true;
        }

        boolean addQuestion(int on, int of) {
            if (questions >= MOST_QUESTIONS) {
                return false;
            }
            askDay[questions] = on;
            askSubject[questions] = of;
            questions++;
            return true;
        }

        void exchange(int a, int b) {
            trade(kind, a, b);
            trade(subject, a, b);
            trade(crumbs, a, b);
            trade(whose, a, b);
        }

        private static void trade(int[] row, int a, int b) {
            int was = row[a];
            row[a] = row[b];
            row[b] = was;
        }

        /** CRUMBS that a BISCUIT SPOILS in a DAY. */
        int spoilOf(int b) {
            int plain = damp / 2;
            int loss = plain;
            if (kind[b] == 1) {
                loss = plain / 2;
            } else if (kind[b] == 2) {
                loss = plain + 1;
            } else if (kind[b] == 3) {
                loss = 2 * (plain + 1);
            }
            return Math.min(loss, crumbs[b]);
        }

        boolean isKnower(int f, int s) {
            for (int b = 0; b < biscuits; b++) {
                if (whose[b] == f && subject[b] == s && crumbs[b] >= bite) {
                    return true;
                }
            }
            return false;
        }

        int knowersOf(int s) {
            int bits = 0;
            for (int b = 0; b < biscuits; b++) {
                if (subject[b] == s && crumbs[b] >= bite) {
                    bits |= 1 << whose[b];
                }
            }
            return bits;
        }

        int loreOf(int f) {
            int bits = 0;
            for (int b = 0; b < biscuits; b++) {
                if (whose[b] == f && crumbs[b] >= bite) {
                    bits |= 1 << subject[b];
                }
            }
            return bits;
        }

        int allLore() {
            int bits = 0;
            for (int b = 0; b < biscuits; b++) {
                if (crumbs[b] >= bite) {
                    bits |= 1 << subject[b];
                }
            }
            return bits;
        }

        int ownedBy(int f) {
            int bits = 0;
            for (int b = 0; b < biscuits; b++) {
                if (whose[b] == f) {
                    bits |= 1 << b;
                }
            }
            return bits;
        }

        int crumbsOf(int f) {
            int sum = 0;
            for (int b = 0; b < biscuits; b++) {
                if (whose[b] == f) {
                    sum += crumbs[b];
                }
            }
            return sum;
        }

        int allCrumbs() {
            return sumOf(crumbs, biscuits);
        }

        int allHunger() {
            return sumOf(hunger, fellows);
        }

        int allAppetites() {
            return sumOf(appetite, fellows);
        }

        private static int sumOf(int[] row, int many) {
            int sum = 0;
            for (int i = 0; i < many && i < row.length; i++) {
                sum += row[i];
            }
            return sum;
        }

        /** QUESTIONS of this DAY that are ANSWERED (bits). */
        int answers() {
            int bits = 0;
            for (int i = 0; i < questions; i++) {
                if (askDay[i] == day && knowersOf(askSubject[i]) != 0) {
                    bits |= 1 << i;
                }
            }
            return bits;
        }

        /** A DAY but for its QUESTIONS, which change nothing: how many CRUMBS are eaten. */
        int live() {
            for (int b = 0; b < biscuits; b++) {
                crumbs[b] -= spoilOf(b);
            }
            int eaten = 0;
            for (int f = 0; f < fellows; f++) {
                eaten += feast(f);
            }
            day++;
            return eaten;
        }

        private int feast(int f) {
            int left = appetite[f];
            for (int b = 0; b < biscuits && left > 0; b++) {
                if (whose[b] == f) {
                    int eaten = Math.min(left, crumbs[b]);
                    crumbs[b] -= eaten;
                    left -= eaten;
                }
            }
            if (left > 0 && hunger[f] < MOST_HUNGER) {
                hunger[f]++;
            }
            return appetite[f] - left;
        }
    }

    /** What is SEEN: who KNOWS what behind how many DAYS, or not. */
    private static final class Sight {
        int many;
        private final int[] behind = new int[MOST_SEEN];
        private final int[] who = new int[MOST_SEEN];
        private final int[] of = new int[MOST_SEEN];
        private final boolean[] known = new boolean[MOST_SEEN];

        boolean add(int n, int f, int s, boolean is) {
            if (many >= MOST_SEEN) {
                return false;
            }
            behind[many] = n;
            who[many] = f;
            of[many] = s;
            known[many] = is;
            many++;
            return true;
        }

        /** Whether all is as SEEN in the DAYS that a larder lives from here on. */
        boolean fits(Larder larder) {
            int last = lastDay();
            for (int d = 0; d <= last; d++) {
                if (!fitsBehind(d, larder)) {
                    return false;
                }
                larder.live();
            }
            return true;
        }

        private int lastDay() {
            int last = 0;
            for (int i = 0; i < many; i++) {
                last = Math.max(last, behind[i]);
            }
            return last;
        }

        private boolean fitsBehind(int d, Larder larder) {
            for (int i = 0; i < many; i++) {
                if (behind[i] == d && larder.isKnower(who[i], of[i]) != known[i]) {
                    return false;
                }
            }
            return true;
        }
    }

    /** A row of CELLS of a lane, or nothing; the widest row is made once and used again. */
    private static final class Sheet {
        boolean there;
        int lane;
        int size;
        final int[] cells = new int[MOST_CELLS];

        void renew(int ofLane, int n) {
            there = true;
            lane = ofLane;
            size = n;
            for (int i = 0; i < MOST_CELLS; i++) {
                cells[i] = 0;
            }
        }

        /** What the machine finds where so many CELLS from one on are taken as of a lane; 0. */
        int faultAt(int asLane, int i, int many) {
            if (!there) {
                return NULL;
            }
            if (lane != asLane) {
                return CAST;
            }
            return i < 0 || i > size - many ? INDEX : 0;
        }

        int narrow(int v) {
            if (lane == 0) {
                return (byte) v;
            }
            return lane == 1 ? (short) v : v;
        }
    }

    /** THE TAPE, and the reading of its text. */
    private static final class Tape {
        private static final int END = 0, NAME = 1, NUMBER = 2, MARK = 3, NO_TOKEN = 4;
        private static final int WORDS = 8, FELLOW = 4, DAMP = 5, BITE = 6, ASK = 7, MOST_NUMBERS = 3;
        private static final int[] NUMBERS = {3, 3, 3, 3, 1, 1, 1, 2};
        private static final int[] BOUNDS = {
            9, 99, 3, 9, 99, 3, 9, 99, 3, 9, 99, 3, 9, 0, 0, 9, 0, 0, 20, 0, 0, 99, 9, 0};

        final byte[] bytes = new byte[MOST_BYTES];
        int length;
        int fault;
        int place;
        int lines;
        private int at;
        private int start;
        private int sort;
        private int value;
        private boolean hasDamp;
        private boolean hasBite;
        private final int[] numbers = new int[MOST_NUMBERS];

        /** Reads all into a larder: whether the text is taken. */
        boolean tell(Larder to) {
            to.empty();
            at = 0;
            fault = 0;
            place = 0;
            lines = 0;
            hasDamp = false;
            hasBite = false;
            readToken();
            // A line has more than one byte, so there are fewer lines than bytes.
            while (fault == 0 && sort != END && lines < MOST_BYTES) {
                readLine(to);
            }
            if (fault == 0) {
                seekFellows(to);
            }
            return fault == 0;
        }

        private void blame(int found, int where) {
            fault = found;
            place = where;
        }

        /** A line from its first TOKEN, which is read, to the TOKEN behind it. */
        private void readLine(Larder to) {
            int word = sort == NAME ? findWord() : WORDS;
            if (word >= WORDS) {
                blame(2, start);
            } else if (isTwice(word)) {
                blame(4, start);
            } else if (isFull(word, to)) {
                blame(5, start);
            } else {
                readNumbers(word);
                readMark();
                if (fault == 0) {
                    write(word, to);
                    lines++;
                    readToken();
                }
            }
        }

        private void readNumbers(int word) {
            int least = word == BITE ? LEAST_BITE : 0;
            for (int i = 0; i < NUMBERS[word] && fault == 0; i++) {
                readToken();
                if (fault == 0 && sort != NUMBER) {
                    blame(2, start);
                } else if (fault == 0 && (value < least || value > BOUNDS[word * MOST_NUMBERS + i])) {
                    blame(3, start);
                }
                numbers[i] = value;
            }
        }

        private void readMark() {
            if (fault == 0) {
                readToken();
                if (fault == 0 && sort != MARK) {
                    blame(2, start);
                }
            }
        }

        private boolean isTwice(int word) {
            return word == DAMP && hasDamp || word == BITE && hasBite;
        }

        private static boolean isFull(int word, Larder to) {
            if (word < FELLOW) {
                return to.biscuits >= MOST_BISCUITS;
            }
            return word == FELLOW && to.fellows >= MOST_FELLOWS || word == ASK && to.questions >= MOST_QUESTIONS;
        }

        private void write(int word, Larder to) {
            switch (word) {
                case FELLOW:
                    to.addFellow(numbers[0]);
                    break;
                case DAMP:
                    to.damp = numbers[0];
                    hasDamp = true;
                    break;
                case BITE:
                    to.bite = numbers[0];
                    hasBite = true;
                    break;
                case ASK:
                    to.addQuestion(numbers[0], numbers[1]);
                    break;
                default:
                    to.addBiscuit(word, numbers[0], numbers[1], numbers[2]);
                    break;
            }
        }

        private void seekFellows(Larder to) {
            for (int b = 0; b < to.biscuits; b++) {
                if (!to.hasFellow(to.whose[b])) {
                    blame(6, length);
                }
            }
        }

        private void readToken() {
            while (at < length && bytes[at] == ' ') {
                at++;
            }
            start = at;
            if (at >= length) {
                sort = END;
            } else if (isLetter(bytes[at])) {
                skipName();
            } else if (isFigure(bytes[at])) {
                readFigures();
            } else {
                sort = bytes[at] == ';' ? MARK : NO_TOKEN;
                at++;
            }
            if (sort == NO_TOKEN) {
                blame(1, start);
            }
        }

        private void skipName() {
            while (at < length && isLetter(bytes[at])) {
                at++;
            }
            sort = NAME;
        }

        private void readFigures() {
            value = 0;
            while (at < length && isFigure(bytes[at])) {
                value = value * 10 + bytes[at] - '0';
                at++;
            }
            sort = at - start <= 2 ? NUMBER : NO_TOKEN;
        }

        private static boolean isLetter(int c) {
            return c >= 'a' && c <= 'z';
        }

        private static boolean isFigure(int c) {
            return c >= '0' && c <= '9';
        }

        /** Which word the NAME is that is read; WORDS: none. */
        private int findWord() {
            int word = 0;
            while (word < WORDS && !isWord(wordOf(word))) {
                word++;
            }
            return word;
        }

        private boolean isWord(String word) {
            if (word.length() != at - start) {
                return false;
            }
            for (int i = 0; i < word.length(); i++) {
                if (bytes[start + i] != word.charAt(i)) {
                    return false;
                }
            }
            return true;
        }

        private static String wordOf(int word) {
            switch (word) {
                case 0: return "plain";
                case 1: return "law";
                case 2: return "arts";
                case 3: return "theology";
                case FELLOW: return "fellow";
                case DAMP: return "damp";
                case BITE: return "bite";
                default: return "ask";
            }
        }
    }
}
