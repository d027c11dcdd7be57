import java.lang.management.ManagementFactory;
import java.util.Random;

/** Wild calls in any state: nothing is thrown, every call ends, the same calls answer the same, a run stays in its room. */
public class HardTest {
    static final int[] EDGES = {Integer.MIN_VALUE, Integer.MIN_VALUE + 1, -100, -99, -2, -1, 0, 1, 2, 3, 4, 7, 8, 23, 24, 25, 98, 99,
        100, 199, 200, 201, 500, 999, 1000, 9801, 9802, 9998, 9999, 10000, 999999, 1000000, 1000001, 999999999, 1000000000, 1000000001,
        46340, 46341, 1 << 30, Integer.MAX_VALUE - 1, Integer.MAX_VALUE};
    static final int METHODS = 38;
    static final int DEAR_CALLS = 45, MINUTES = 10;
    // 7.3 million elements of 8 bytes at most
    static final long ROOM = 7_300_000L * 8;

    static int wrong;

    static int pick(Random random) {
        int luck = random.nextInt(4);
        return luck == 0 ? random.nextInt() : luck == 1 ? EDGES[random.nextInt(EDGES.length)] : random.nextInt(8);
    }

    static long pickLong(Random random) {
        int luck = random.nextInt(4);
        return luck == 0 ? random.nextLong() : luck == 1 ? 0x3132333435363738L : luck == 2 ? pick(random) : Long.MAX_VALUE >>> random.nextInt(64);
    }

    static int call(OrangeHeaps h, int method, Random random) {
        int a = pick(random);
        int b = pick(random);
        int c = pick(random);
        int d = pick(random);
        int e = pick(random);
        long v = pickLong(random);
        switch (method) {
            case 0: return h.put(a, v);
            case 1: return h.shape(a, b, c);
            case 2: return h.empty(a);
            case 3: return h.told(a);
            case 4: return h.type(v, a);
            case 5: return h.number(a);
            case 6: return h.figures(a);
            case 7: return h.nine(a, b);
            case 8: return h.reckon(a, b, c, d);
            case 9: return h.root(a, b);
            case 10: return h.order(a, b);
            case 11: return h.nth(a, b, c);
            case 12: return h.which(a, b, c);
            case 13: return h.both(a, b);
            case 14: return h.side(a, b, c);
            case 15: return h.one(a, b, c, d);
            case 16: return h.less(a);
            case 17: return h.round(a, b);
            case 18: return h.near(a, b, c, d);
            case 19: return h.off(a, b, c);
            case 20: return h.best(a, b, c, d);
            case 21: return h.two(a, b);
            case 22: return h.three(a, b);
            case 23: return h.four(a, b);
            case 24: return h.fewest(a);
            case 25: return h.wall(a, b);
            case 26: return h.flat(a, b);
            case 27: return h.corners(a, b);
            case 28: return h.string(a);
            case 29: return h.claims();
            case 30: return h.image();
            case 31: return h.restore();
            case 32: return h.heap(a, b, c, d, e);
            case 33: return h.sheet(a, b, c);
            case 34: return h.drop(a);
            case 35: return h.item(a, b, c, v);
            case 36: return h.film(a, b, c, d);
            default: return h.put(a & 7, v & Long.MAX_VALUE);
        }
    }

    static long run(int seed) {
        Random random = new Random(seed);
        OrangeHeaps h = new OrangeHeaps();
        long sum = 0;
        for (int i = 0; i < 512; i++) {
            int method = random.nextInt(METHODS);
            try {
                sum = 31 * sum + call(h, method, random);
            } catch (Throwable t) {
                wrong++;
                System.out.println("run " + seed + ", call " + i + ", method " + method + ": " + t);
            }
        }
        return sum;
    }

    /** One object and the dearest of its 512 calls stay in the room of one run, told as bytes. */
    static void room() {
        com.sun.management.ThreadMXBean threads = (com.sun.management.ThreadMXBean) ManagementFactory.getThreadMXBean();
        long id = Thread.currentThread().getId();
        dear(new OrangeHeaps());
        long before = threads.getThreadAllocatedBytes(id);
        OrangeHeaps h = new OrangeHeaps();
        for (int i = 0; i < 512 / DEAR_CALLS; i++) {
            dear(h);
        }
        long bytes = threads.getThreadAllocatedBytes(id) - before;
        if (bytes > ROOM) {
            wrong++;
            System.out.println("an object and its dearest calls take " + bytes + " bytes");
        }
    }

    static void dear(OrangeHeaps h) {
        h.one(61, 19, 0, 1);
        h.one(9949, 1, 0, 1);
        h.near(9998, 199, 0, 1);
        h.root(0, 2);
        h.shape(3, 4, 99);
        h.which(3, 0, 4);
        h.nth(3, 2, 5);
        h.reckon(3, 0, 2, 6);
        h.both(142, 7);
        h.side(200, 1, 7);
        h.off(9998, 99, -1);
        h.best(999999, 999998, 999, 0);
        h.two(1000000000, -1);
        h.three(999999, 0);
        h.four(458752, 3);
        h.fewest(999999999);
        h.wall(999, -1);
        h.flat(99, -1);
        h.corners(500, -1);
        h.string(100000);
        h.image();
        h.restore();
        for (int i = 0; i < 12; i++) {
            h.type(0x33363d7336202020L, 8);
        }
        h.claims();
        h.type(0x3132333435363738L, 8);
        h.number(0);
        h.sheet(0, 2, 24);
        h.film(0, 0, 2, 0);
        h.heap(0, 2, 0, 24, 0);
        h.round(9949, 9999);
        h.less(9949);
    }

    /** A call that fails to end fails the test, in place of waiting for ever. */
    static void watch() {
        Thread watch = new Thread(() -> {
            try {
                Thread.sleep(MINUTES * 60_000L);
            } catch (InterruptedException e) {
                return;
            }
            System.out.println("HardTest: a call does not end");
            Runtime.getRuntime().halt(1);
        });
        watch.setDaemon(true);
        watch.start();
    }

    public static void main(String[] args) {
        watch();
        for (int seed = 0; seed < 600; seed++) {
            if (run(seed) != run(seed)) {
                wrong++;
                System.out.println("run " + seed + " answers otherwise the second time");
            }
        }
        room();
        System.out.println("HardTest: " + wrong + " wrong");
        System.exit(wrong == 0 ? 0 : 1);
    }
}
