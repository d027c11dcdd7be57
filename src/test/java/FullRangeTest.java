import java.math.BigInteger;
import java.util.ArrayList;
import java.util.HashMap;
import java.util.List;
import java.util.Map;

/** Every d, path, k, h and length that may be asked, and every n up to a bound, reckoned here another way. */
public class FullRangeTest extends Boundaries {
    private static final int SUMS = 100_000;

    private static Heaps shared = new Heaps();

    /** An object for calls that need nothing of before. */
    static Heaps any() {
        shared = shared.left() < 1 ? new Heaps() : shared;
        return shared;
    }

    // ---- roots: the parts as (lift + root) by divisor, the fractions and ones as exact numbers

    static void roots() {
        for (int d = 2; d <= 9999; d++) {
            if (isSquare(d)) {
                is("round " + d, any().round(d, -1), BAD);
                is("less " + d, any().less(d), BAD);
            } else {
                List<Integer> parts = partsOf(d);
                int round = parts.size() - 1;
                is("round " + d, any().round(d, -1), round);
                for (int i = 0; i < parts.size(); i += 1 + round / 5) {
                    is("round " + d + ", " + i, any().round(d, i), parts.get(i));
                }
                is("round " + d + ", 9999", any().round(d, 9999), partAt(parts, 9999));
                ones(d, parts);
            }
        }
    }

    /** The parts up to where a pair of lift and divisor comes again. */
    static List<Integer> partsOf(int d) {
        int root = BigInteger.valueOf(d).sqrt().intValue();
        List<Integer> parts = new ArrayList<>();
        Map<Integer, Integer> seen = new HashMap<>();
        int lift = 0;
        int divisor = 1;
        for (int i = 0; i == 0 || seen.put(1000 * lift + divisor, i) == null; i++) {
            int part = (root + lift) / divisor;
            parts.add(part);
            lift = part * divisor - lift;
            divisor = (d - lift * lift) / divisor;
        }
        return parts;
    }

    static int partAt(List<Integer> parts, int i) {
        return i == 0 ? parts.get(0) : parts.get(1 + (i - 1) % (parts.size() - 1));
    }

    /** Goes from one fraction to the next up to the first x, y with x x one more than d y y. */
    static void ones(int d, List<Integer> parts) {
        BigInteger[] older = {BigInteger.ONE, BigInteger.ZERO};
        BigInteger[] now = {BigInteger.valueOf(parts.get(0)), BigInteger.ONE};
        int less = 0;
        for (int i = 0; gapOf(now, d).compareTo(BigInteger.ONE) != 0; i++) {
            less = gapOf(now, d).equals(BigInteger.ONE.negate()) ? 1 : less;
            if (i <= 200 && i % 50 == d % 50) {
                pair("near " + d + ", " + i, now, (heaps, x) -> heaps.near(d, x, 6, 7), i);
            }
            BigInteger part = BigInteger.valueOf(partAt(parts, i + 1));
            BigInteger[] next = {now[0].multiply(part).add(older[0]), now[1].multiply(part).add(older[1])};
            older = now;
            now = next;
        }
        is("less " + d, any().less(d), less);
        BigInteger[] least = now;
        for (int n = 1; n <= 3; n++) {
            pair("one " + d + ", " + n, now, (heaps, x) -> heaps.one(d, x, 6, 7), n);
            now = new BigInteger[] {now[0].multiply(least[0]).add(now[1].multiply(least[1]).multiply(BigInteger.valueOf(d))),
                now[0].multiply(least[1]).add(now[1].multiply(least[0]))};
        }
    }

    static BigInteger gapOf(BigInteger[] pair, int d) {
        return pair[0].multiply(pair[0]).subtract(pair[1].multiply(pair[1]).multiply(BigInteger.valueOf(d)));
    }

    static void pair(String call, BigInteger[] due, CallWith asking, int x) {
        Heaps heaps = new Heaps();
        boolean fits = due[0].compareTo(LIMIT) < 0;
        is(call, asking.on(heaps, x), fits ? due[0].toString().length() : FULL);
        if (fits) {
            holds(heaps, call + " above", 6, due[0].toString());
            holds(heaps, call + " below", 7, due[1].toString());
        } else {
            is(call + " changes nothing", heaps.told(6) + heaps.told(7), 0);
        }
    }

    // ---- sums: each row is met in its order, and the first for a number stays

    static void sums() {
        int[][] three = new int[SUMS + 1][];
        for (int a = 0; 3 * triangle(a) <= SUMS; a++) {
            for (int b = a; triangle(a) + 2 * triangle(b) <= SUMS; b++) {
                for (int c = b; triangle(a) + triangle(b) + triangle(c) <= SUMS; c++) {
                    keep(three, triangle(a) + triangle(b) + triangle(c), a, b, c);
                }
            }
        }
        rows("three", three, (heaps, n, i) -> heaps.three(n, i));
        int[][] four = new int[SUMS + 1][];
        for (int a = 0; 4 * a * a <= SUMS; a++) {
            for (int b = a; a * a + 3 * b * b <= SUMS; b++) {
                for (int c = b; a * a + b * b + 2 * c * c <= SUMS; c++) {
                    for (int d = c; a * a + b * b + c * c + d * d <= SUMS; d++) {
                        keep(four, a * a + b * b + c * c + d * d, a, b, c, d);
                    }
                }
            }
        }
        rows("four", four, (heaps, n, i) -> heaps.four(n, i));
    }

    interface CallForRow {
        int on(Heaps heaps, int n, int i);
    }

    static int triangle(int n) {
        return n * (n + 1) / 2;
    }

    static void keep(int[][] rows, int sum, int... row) {
        rows[sum] = rows[sum] == null ? row : rows[sum];
    }

    static void rows(String call, int[][] due, CallForRow asking) {
        for (int n = 0; n <= SUMS; n++) {
            for (int i = 0; i < due[n].length; i++) {
                is(call + " " + n + ", " + i, asking.on(any(), n, i), due[n][i]);
            }
        }
    }

    static void pairsAndFewest() {
        List<List<Integer>> pairs = new ArrayList<>();
        int[] fewest = new int[SUMS + 1];
        for (int n = 0; n <= SUMS; n++) {
            pairs.add(new ArrayList<>());
        }
        for (int a = 0; 2 * a * a <= SUMS; a++) {
            for (int b = a; a * a + b * b <= SUMS; b++) {
                pairs.get(a * a + b * b).add(a);
            }
        }
        for (int n = 1; n <= SUMS; n++) {
            fewest[n] = 4;
            for (int a = 1; a * a <= n; a++) {
                fewest[n] = Math.min(fewest[n], 1 + fewest[n - a * a]);
            }
        }
        for (int n = 0; n <= SUMS; n++) {
            int of = n;
            all("two " + n, pairs.get(n), (heaps, i) -> heaps.two(of, i));
            is("fewest " + n, any().fewest(n), fewest[n]);
        }
    }

    /** How many there are, each of them, and none behind. */
    static void all(String call, List<Integer> due, CallWith asking) {
        is(call + ", -1", asking.on(any(), -1), due.size());
        for (int i = 0; i < due.size(); i++) {
            is(call + ", " + i, asking.on(any(), i), due.get(i));
        }
        is(call + ", " + due.size(), asking.on(any(), due.size()), NONE);
    }

    // ---- walls, heaps, right corners, strings

    static void walls() {
        for (int path = 1; path <= 999; path++) {
            List<Integer> sides = new ArrayList<>();
            for (int a = 4 * path + 1; a <= 7 * path; a++) {
                // a b is twice (a - 2 path) (b - 2 path)
                int above = 4 * path * (a - 2 * path);
                int below = a - 4 * path;
                if (above % below == 0 && above / below >= a) {
                    sides.add(a);
                }
            }
            int of = path;
            all("wall " + path, sides, (heaps, i) -> heaps.wall(of, i));
        }
    }

    static void flats() {
        for (int k = 3; k <= 99; k++) {
            List<Integer> flat = new ArrayList<>();
            BigInteger heap = BigInteger.ZERO;
            for (int n = 1; n <= 3000; n++) {
                heap = heap.add(corners(k, BigInteger.valueOf(n)));
                if (heap.sqrt().pow(2).equals(heap)) {
                    flat.add(n);
                }
            }
            int of = k;
            all("flat " + k, flat, (heaps, i) -> heaps.flat(of, i));
        }
    }

    static void rightCorners() {
        List<Integer> corners = new ArrayList<>();
        for (int c = 1; c <= 500; c++) {
            for (int a = 1; 2 * a * a < c * c; a++) {
                if (isSquare((long) c * c - (long) a * a)) {
                    corners.add(1000 * a + c);
                }
            }
            is("corners " + c, any().corners(c, -1), corners.size());
        }
        all("corners 500", corners, (heaps, i) -> heaps.corners(500, i));
    }

    /** Each right corner is a multiple of one made of two numbers without a common part, one of them even. */
    static void strings() {
        int[] due = new int[100_001];
        for (int m = 2; 2 * m * m < due.length; m++) {
            for (int n = 1 + m % 2; n < m; n += 2) {
                int string = 2 * m * (m + n);
                if (BigInteger.valueOf(m).gcd(BigInteger.valueOf(n)).equals(BigInteger.ONE)) {
                    for (int length = string; length < due.length; length += string) {
                        due[length]++;
                    }
                }
            }
        }
        for (int length = 1; length < due.length; length++) {
            is("string " + length, any().string(length), due[length]);
        }
    }

    public static void main(String[] args) {
        sentence("2: the round, near, ones, less of every d");
        roots();
        sentence("3: three, four for every n to " + SUMS);
        sums();
        sentence("3: two, fewest for every n to " + SUMS);
        pairsAndFewest();
        sentence("3: every wall");
        walls();
        sentence("3: every flat heap");
        flats();
        sentence("3: every right corner");
        rightCorners();
        sentence("3: every string");
        strings();
        end("FullRangeTest");
    }
}
