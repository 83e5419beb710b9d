import java.lang.management.ManagementFactory;

/** That no call makes an object but the constructor, and that one object is small: all calls of a run live in one room. */
public final class RoomTest {
    private static final String HALL = "fellow 3;fellow 2;plain 1 30 0;law 2 40 0;arts 3 25 1;theology 1 50 1;"
            + "damp 4;bite 6;ask 3 1;ask 8 2;ask 12 3;";
    private static final char[] LETTERS = HALL.toCharArray();
    private static final com.sun.management.ThreadMXBean THREADS =
            (com.sun.management.ThreadMXBean) ManagementFactory.getThreadMXBean();

    private static long bytes() {
        return THREADS.getThreadAllocatedBytes(Thread.currentThread().getId());
    }

    private static long allCalls(BiscuitLore x) {
        long sum = 0;
        for (int i = 0; i < LETTERS.length; i++) sum += x.feed(LETTERS[i]);
        sum += x.end(LETTERS.length) + x.text() + x.fault() + x.rule(6) + x.fellow(0, 1) + x.biscuit(0, 4) + x.question(0, 1) + x.knows(1);
        sum += x.alter(0, 2, 31) + x.diet(0, 2) + x.damp(3) + x.bite(5) + x.pose(1, 1) + x.drop(2) + x.bake(0, 1, 9, 0);
        sum += x.days(1) + x.runs(60, 3) + x.ahead(0, 60) + x.lasts(1) + x.starves(0);
        sum += x.need(0, 60) + x.thrift(0, 0) + x.heir(0, 0) + x.swap(0) + x.wise(9, 0) + x.chew(0);
        sum += x.luck(3, 0, 1, 8, 0) + x.mean(3, 8, 0);
        sum += x.see(3, 0, 1, true) + x.kinds(0) + x.subjects(0) + x.ask(0, 0) + x.forget(0) + x.drift(7, 60, 0);
        sum += x.keep(0) + x.back(0) + x.sheet(0, 0, 40) + x.lay(0, 1, 1) + x.read(0, 0, 0, 1) + x.torn() + x.count(4);
        return sum;
    }

    public static void main(String[] args) {
        BiscuitLore x = new BiscuitLore();
        long sum = 0;
        for (int i = 0; i < 20; i++) sum += allCalls(x);
        bytes();
        long start = bytes();
        for (int i = 0; i < 1000; i++) sum += allCalls(x);
        long calls = bytes() - start;
        start = bytes();
        BiscuitLore y = new BiscuitLore();
        long one = bytes() - start;
        System.out.println("a thousand times all calls: " + calls + " bytes; an object: " + one + " bytes" + (sum == 0 || y.fault() != 0 ? "!" : ""));
        if (calls > 4096 || one > 16384) {
            System.out.println("too much");
            System.exit(1);
        }
    }
}
