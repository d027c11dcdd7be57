import java.math.BigInteger;
import java.util.ArrayList;
import java.util.List;

/** Promises 15 to 22: each sentence that names a boundary case has a test of its own. */
public class PartsBoundaryTest extends Boundaries {
    static final int FIRST_D = 2, LAST_D = 9999;

    // ---- a second reading: nearest parts by whole numbers, fractions by BigInteger

    /** a0, a1, .. up to the end of the first round. */
    static List<Integer> parts(int d) {
        List<Integer> parts = new ArrayList<>();
        int root = BigInteger.valueOf(d).sqrt().intValueExact();
        int m = 0;
        int q = 1;
        int part = root;
        parts.add(part);
        while (part != 2 * root) {
            m = part * q - m;
            q = (d - m * m) / q;
            part = (root + m) / q;
            parts.add(part);
        }
        return parts;
    }

    static int part(List<Integer> parts, int i) {
        return i == 0 ? parts.get(0) : parts.get(1 + (i - 1) % (parts.size() - 1));
    }

    /** Above and below of NEAR 0 .. i. */
    static List<BigInteger[]> near(int d, int i) {
        List<Integer> parts = parts(d);
        List<BigInteger[]> all = new ArrayList<>();
        BigInteger[] before = {BigInteger.ONE, BigInteger.ZERO};
        BigInteger[] now = {BigInteger.valueOf(parts.get(0)), BigInteger.ONE};
        all.add(now);
        for (int j = 1; j <= i; j++) {
            BigInteger part = BigInteger.valueOf(part(parts, j));
            BigInteger[] next = {now[0].multiply(part).add(before[0]), now[1].multiply(part).add(before[1])};
            before = now;
            now = next;
            all.add(now);
        }
        return all;
    }

    /** x, y of the first n of ONES: the first of NEAR that is one, then the others from it. */
    static List<BigInteger[]> ones(int d, int n) {
        BigInteger big = BigInteger.valueOf(d);
        BigInteger[] least = null;
        for (BigInteger[] f : near(d, 2 * parts(d).size())) {
            if (least == null && f[0].multiply(f[0]).subtract(f[1].multiply(f[1]).multiply(big)).equals(BigInteger.ONE)) {
                least = f;
            }
        }
        List<BigInteger[]> all = new ArrayList<>();
        BigInteger[] now = {BigInteger.ONE, BigInteger.ZERO};
        for (int j = 0; j < n; j++) {
            now = new BigInteger[] {now[0].multiply(least[0]).add(now[1].multiply(least[1]).multiply(big)),
                now[0].multiply(least[1]).add(now[1].multiply(least[0]))};
            all.add(now);
        }
        return all;
    }

    static String[] texts(BigInteger[] two) {
        return new String[] {two[0].toString(), two[1].toString()};
    }

    static int figures(BigInteger v) {
        return v.toString().length();
    }

    // ---- 15 both, 16 side

    static void bothAll() {
        sentence("15: The i-th (0 .. 200) of BOTH; Terms: the 0th is 0, the first 1, all there are");
        outside("both of i", 0, 200, (h, x) -> h.both(x, FREE));
        noPlace("both to", (h, x) -> h.both(1, x));
        long v = 0;
        Heaps h = new Heaps();
        int i = 0;
        for (long n = 0; n < 3_000_000; n++) {
            v += n;
            if (isSquare(v)) {
                is("both " + i, h.both(i, 0), ("" + v).length());
                holds(h, "both " + i, 0, "" + v);
                is("side " + i, h.side(i, 1, 1), ("" + n).length());
                holds(h, "which TRIANGLE " + i, 1, "" + n);
                long root = Math.round(Math.sqrt((double) v));
                is("side " + i, h.side(i, 0, 1), ("" + root).length());
                holds(h, "which SQUARE " + i, 1, "" + root);
                i++;
            }
        }
        is("how many below 3000000", i, 10);
    }

    /** Squares' sides and triangles' sides, by (3 + 2 root 2) to the i-th. */
    static BigInteger[] sides(int i) {
        BigInteger x = BigInteger.ONE;
        BigInteger y = BigInteger.ZERO;
        for (int j = 0; j < i; j++) {
            BigInteger next = x.multiply(BigInteger.valueOf(3)).add(y.shiftLeft(2));
            y = x.shiftLeft(1).add(y.multiply(BigInteger.valueOf(3)));
            x = next;
        }
        return new BigInteger[] {y.shiftRight(1), x.shiftRight(1)};
    }

    static void bothFull() {
        sentence("15: FULL");
        int lastThatFits = 0;
        for (int i = 0; i <= 200; i++) {
            BigInteger v = sides(i)[0].pow(2);
            int asked = i;
            if (v.compareTo(LIMIT) < 0) {
                givesNumber("both " + i, v.toString(), SEVEN, h -> h.both(asked, SEVEN));
                lastThatFits = i;
            } else {
                refused("both " + i, FULL, h -> h.both(asked, SEVEN));
            }
        }
        is("last that fits", lastThatFits, 142);
        refused("both 143 into nothing", FULL, h -> h.both(143, NOTHING));
        refused("both 143 into a shape", FULL, h -> h.both(143, HEAP));
        sentence("15: BAD ahead of FULL");
        noPlace("both to, of too many figures", (h, x) -> h.both(143, x));
        noPlace("both to, of too many figures", (h, x) -> h.both(200, x));
    }

    static void bothPlaces() {
        sentence("15, 16, Terms: An answer comes to a PLACE, whatever it holds");
        for (int to = 0; to < 8; to++) {
            int answer = to;
            givesNumber("both", "36", to, h -> h.both(2, answer));
            givesNumber("both", "0", to, h -> h.both(0, answer));
            givesNumber("side", "6", to, h -> h.side(2, 0, answer));
            givesNumber("side", "8", to, h -> h.side(2, 1, answer));
        }
    }

    static void sideAll() {
        sentence("16: Which SQUARE (0), which TRIANGLE (1) the i-th (0 .. 200) of BOTH is");
        outside("side of i, a square", 0, 200, (h, x) -> h.side(x, 0, FREE));
        outside("side of i, a triangle", 0, 200, (h, x) -> h.side(x, 1, FREE));
        outside("side of what", 0, 1, (h, x) -> h.side(2, x, FREE));
        noPlace("side to", (h, x) -> h.side(2, 0, x));
        noPlace("side to", (h, x) -> h.side(200, 1, x));
        for (int i = 0; i <= 200; i++) {
            BigInteger[] sides = sides(i);
            Heaps h = new Heaps();
            is("square of " + i, h.side(i, 0, 0), figures(sides[0]));
            holds(h, "square of " + i, 0, sides[0].toString());
            is("triangle of " + i, h.side(i, 1, 0), figures(sides[1]));
            holds(h, "triangle of " + i, 0, sides[1].toString());
        }
    }

    // ---- 17 one

    static void oneBad() {
        sentence("17: BAD: also a square, twice one PLACE; n 1 .. 99");
        noRootless("one", (h, x) -> h.one(x, 1, FREE, SEVEN));
        outside("one of n", 1, 99, (h, x) -> h.one(2, x, FREE, SEVEN));
        noPlace("one x", (h, x) -> h.one(2, 1, x, SEVEN));
        noPlace("one y", (h, x) -> h.one(2, 1, FREE, x));
        for (int place = -1; place <= 8; place++) {
            int twice = place;
            refused("one to " + place + " twice", BAD, h -> h.one(2, 1, twice, twice));
        }
        sentence("17: BAD ahead of FULL");
        noRootless("one, 99", (h, x) -> h.one(x, 99, FREE, SEVEN));
        noPlace("one x, of too many figures", (h, x) -> h.one(61, 99, x, SEVEN));
        noPlace("one y, of too many figures", (h, x) -> h.one(61, 99, FREE, x));
        refused("one twice, of too many figures", BAD, h -> h.one(61, 99, FREE, FREE));
    }

    static void oneFirst() {
        sentence("17, Terms: x, y above 0, by rising x: the LEAST is the first");
        for (int d = 2; d <= 60; d++) {
            int n = 0;
            Heaps h = new Heaps();
            for (long y = 1; y <= 20000 && !isSquare(d); y++) {
                if (isSquare(d * y * y + 1) && n < 30) {
                    n++;
                    long x = Math.round(Math.sqrt((double) (d * y * y + 1)));
                    is("one " + d + " " + n, h.one(d, n, 0, 7), ("" + x).length());
                    holds(h, "x " + d + " " + n, 0, "" + x);
                    holds(h, "y " + d + " " + n, 7, "" + y);
                }
            }
        }
        for (int d : new int[] {FIRST_D, LAST_D, 9998, 9997, 9802, 9800, 9799, 9949, 61, 109, 421}) {
            BigInteger[] least = ones(d, 1).get(0);
            givesTwo("least of " + d, texts(least), FREE, HEAP, h -> h.one(d, 1, FREE, HEAP));
        }
    }

    static void oneLeastOfAll() {
        sentence("17: x, y of the LEAST for each d (2 .. 9999)");
        Heaps h = new Heaps();
        for (int d = FIRST_D; d <= LAST_D; d += d < 1000 ? 1 : 7) {
            if (h.left() < 70) {
                h = new Heaps();
            }
            if (isSquare(d)) {
                is("one " + d, h.one(d, 1, 0, 1), BAD);
            } else {
                BigInteger[] least = ones(d, 1).get(0);
                is("one " + d, h.one(d, 1, 0, 1), figures(least[0]));
                holds(h, "x of " + d, 0, least[0].toString());
                holds(h, "y of " + d, 1, least[1].toString());
            }
        }
    }

    static void oneFull() {
        sentence("17: FULL; the n-th (1 .. 99)");
        for (int d : new int[] {2, 3, 5, 6, 7, 8, 10, 13, 19, 31, 46, 61, 94, 97, 109, 151, 9949, 9998, 9999}) {
            List<BigInteger[]> ones = ones(d, 99);
            int fits = 0;
            while (fits < 99 && ones.get(fits)[0].compareTo(LIMIT) < 0) {
                fits++;
            }
            int last = fits;
            givesTwo("one " + d + " " + last, texts(ones.get(last - 1)), LONGEST, TRIANGLE, h -> h.one(d, last, LONGEST, TRIANGLE));
            if (last < 99) {
                refused("one " + d + " " + (last + 1), FULL, g -> g.one(d, last + 1, SOME, SEVEN));
                refused("one " + d + " 99", FULL, g -> g.one(d, 99, NOTHING, HEAP));
            }
        }
        is("x of 216 figures comes", longestX(), 216);
    }

    /** How many figures the longest x has that is told, over some d whose last that fits is 216 figures long. */
    static int longestX() {
        int longest = 0;
        for (int d = 2; d < 40; d++) {
            if (!isSquare(d)) {
                Heaps h = new Heaps();
                List<BigInteger[]> ones = ones(d, 99);
                for (int n = 1; n <= 99; n++) {
                    int due = ones.get(n - 1)[0].compareTo(LIMIT) < 0 ? figures(ones.get(n - 1)[0]) : FULL;
                    is("one " + d + " " + n, h.one(d, n, 3, 4), due);
                    longest = Math.max(longest, due);
                }
            }
        }
        return longest;
    }

    /** x too long by one figure, y not: neither comes. */
    static void oneFullByXAlone() {
        sentence("17: FULL: What is refused changes nothing");
        int met = 0;
        for (int d = 2; d < 1000; d++) {
            if (isSquare(d)) {
                continue;
            }
            List<BigInteger[]> ones = ones(d, 99);
            for (int n = 1; n <= 99; n++) {
                BigInteger[] one = ones.get(n - 1);
                if (one[0].compareTo(LIMIT) >= 0 && one[1].compareTo(LIMIT) < 0 && met < 20) {
                    int askedD = d;
                    int askedN = n;
                    met++;
                    refused("one " + d + " " + n, FULL, h -> h.one(askedD, askedN, SOME, SEVEN));
                    refused("one " + d + " " + n, FULL, h -> h.one(askedD, askedN, HEAP, NOTHING));
                }
            }
        }
        is("x alone too long", met, 20);
    }

    static void onePlaces() {
        sentence("17, Terms: two PLACES, whatever they hold");
        for (int x = 0; x < 8; x++) {
            for (int y = 0; y < 8; y++) {
                int toX = x;
                int toY = y;
                if (x != y) {
                    givesTwo("one", new String[] {"649", "180"}, x, y, h -> h.one(13, 1, toX, toY));
                }
            }
        }
    }

    // ---- 18 less, 19 round

    static void less() {
        sentence("18: Whether LESS is there (1, 0). BAD: also a square");
        noRootless("less", (h, x) -> h.less(x));
        Heaps h = new Heaps();
        for (int d = FIRST_D; d <= LAST_D; d++) {
            if (h.left() == 0) {
                h = new Heaps();
            }
            is("less " + d, h.less(d), isSquare(d) ? BAD : (parts(d).size() - 1) % 2);
        }
        for (int d : new int[] {2, 5, 10, 13, 17, 26, 29, 37, 41}) {
            refused("less " + d, 1, g -> g.less(d));
        }
        for (int d : new int[] {3, 6, 7, 8, 11, 12, 14, 34, 9999}) {
            refused("less " + d, 0, g -> g.less(d));
        }
    }

    static void roundLengths() {
        sentence("19: THE ROUND: how many (-1). BAD: also a square");
        noRootless("round, how many", (h, x) -> h.round(x, -1));
        noRootless("round, a0", (h, x) -> h.round(x, 0));
        Heaps h = new Heaps();
        for (int d = FIRST_D; d <= LAST_D; d++) {
            if (h.left() == 0) {
                h = new Heaps();
            }
            is("round " + d, h.round(d, -1), isSquare(d) ? BAD : parts(d).size() - 1);
        }
        refused("round changes nothing", 11, g -> g.round(61, -1));
    }

    static void roundParts() {
        sentence("19: ai (i 0 .. 9999)");
        outside("round of i", -1, 9999, (h, x) -> h.round(7, x));
        for (int d : new int[] {2, 3, 7, 8, 61, 94, 1000, 9801 - 1, 9801 + 1, 9949, 9998, 9999}) {
            List<Integer> parts = parts(d);
            int round = parts.size() - 1;
            Heaps h = new Heaps();
            for (int i = 0; i <= Math.min(2 * round + 2, 480); i++) {
                is("round " + d + " " + i, h.round(d, i), part(parts, i));
            }
            is("round " + d + " before the last", h.round(d, 9998), part(parts, 9998));
            is("round " + d + " the last", h.round(d, 9999), part(parts, 9999));
        }
        refused("round changes nothing", 14, g -> g.round(61, 11));
    }

    // ---- 20 near

    static void nearBad() {
        sentence("20: NEAR i (0 .. 200). BAD: also a square, twice one PLACE");
        noRootless("near", (h, x) -> h.near(x, 1, FREE, SEVEN));
        outside("near of i", 0, 200, (h, x) -> h.near(2, x, FREE, SEVEN));
        noPlace("near above", (h, x) -> h.near(2, 1, x, SEVEN));
        noPlace("near below", (h, x) -> h.near(2, 1, FREE, x));
        for (int place = -1; place <= 8; place++) {
            int twice = place;
            refused("near to " + place + " twice", BAD, h -> h.near(2, 1, twice, twice));
        }
        sentence("20: BAD ahead of FULL");
        noRootless("near, 200", (h, x) -> h.near(x, 200, FREE, SEVEN));
        outside("near of i, of too many figures", 0, 200, (h, x) -> h.near(9998, x, FREE, SEVEN));
        noPlace("near above, of too many figures", (h, x) -> h.near(9998, 200, x, SEVEN));
        noPlace("near below, of too many figures", (h, x) -> h.near(9998, 200, FREE, x));
        refused("near twice, of too many figures", BAD, h -> h.near(9998, 200, FREE, FREE));
    }

    static void nearAll() {
        sentence("20: above, below come to two PLACES: how many figures above has; FULL");
        int fullByAboveAlone = 0;
        int longest = 0;
        for (int d : new int[] {2, 3, 7, 61, 99, 9949, 9802, 9900, 9990, 9997, 9998, 9999}) {
            List<BigInteger[]> near = near(d, 200);
            Heaps h = new Heaps();
            for (int i = 0; i <= 200; i++) {
                BigInteger[] f = near.get(i);
                boolean fits = f[0].compareTo(LIMIT) < 0;
                is("near " + d + " " + i, h.near(d, i, 2, 5), fits ? figures(f[0]) : FULL);
                if (i < 3 || i > 197 && fits || fits && near.get(i + 1)[0].compareTo(LIMIT) >= 0) {
                    holds(h, "above " + d + " " + i, 2, f[0].toString());
                    holds(h, "below " + d + " " + i, 5, f[1].toString());
                }
                longest = fits ? Math.max(longest, figures(f[0])) : longest;
                if (!fits && f[1].compareTo(LIMIT) < 0) {
                    int asked = i;
                    fullByAboveAlone++;
                    refused("near " + d + " " + i, FULL, g -> g.near(d, asked, SOME, SEVEN));
                    refused("near " + d + " " + i, FULL, g -> g.near(d, asked, NOTHING, HEAP));
                }
            }
        }
        is("above of 216 figures comes", longest, 216);
        is("above alone is too long at times", fullByAboveAlone > 0 ? 1 : 0, 1);
    }

    static void nearPlaces() {
        sentence("20, Terms: two PLACES, whatever they hold");
        for (int above = 0; above < 8; above++) {
            for (int below = 0; below < 8; below++) {
                int toAbove = above;
                int toBelow = below;
                if (above != below) {
                    givesTwo("near", new String[] {"127", "48"}, above, below, h -> h.near(7, 7, toAbove, toBelow));
                }
            }
        }
    }

    // ---- 21 off

    static void offBad() {
        sentence("21: d, OFF (-99 .. 99), i (-1, 0 .. 9999). BAD: also a square");
        noRootless("off", (h, x) -> h.off(x, 1, 0));
        noRootless("off, how many", (h, x) -> h.off(x, 1, -1));
        outside("off of off", -99, 99, (h, x) -> h.off(2, x, 0));
        outside("off of off, how many", -99, 99, (h, x) -> h.off(2, x, -1));
        outside("off of i", -1, 9999, (h, x) -> h.off(2, 1, x));
        refused("off 99", NONE, h -> h.off(9998, 99, 0));
        refused("off -99", 3, h -> h.off(11, -99, 0));
        sentence("21: BAD ahead of NONE");
        outside("off of i, none there", -1, 9999, (h, x) -> h.off(3, -1, x));
    }

    static void offAll() {
        sentence("21: how many y (-1), the i-th; NONE: there is no i-th; Terms: y from 0 to 9999, a square (not below 0)");
        for (int d : new int[] {2, 3, 8, 11, 99, 2499, 9996, 9998, 9999}) {
            Heaps h = new Heaps();
            for (int off = -99; off <= 99; off += d == 2 || d == 11 ? 1 : 11) {
                List<Integer> ys = new ArrayList<>();
                for (long y = 0; y <= 9999; y++) {
                    if (isSquare(d * y * y + off)) {
                        ys.add((int) y);
                    }
                }
                h = h.left() < 30 ? new Heaps() : h;
                is("off " + d + " " + off, h.off(d, off, -1), ys.size());
                for (int i = 0; i < ys.size(); i++) {
                    is("off " + d + " " + off + " " + i, h.off(d, off, i), ys.get(i));
                }
                is("off " + d + " " + off + " behind the last", h.off(d, off, ys.size()), NONE);
            }
        }
    }

    static void offEdges() {
        sentence("21, Terms: y from 0 to 9999");
        refused("y 0", 0, h -> h.off(2, 1, 0));
        refused("y 0", 0, h -> h.off(9999, 0, 0));
        refused("y 0 alone", 1, h -> h.off(9999, 0, -1));
        refused("no y 0 below 0", 1, h -> h.off(2, -1, 0));
        refused("y 9999", 9999, h -> h.off(2499, 1, 3));
        refused("y 9999", 4, h -> h.off(2499, 1, -1));
        refused("y 9999", 9999, h -> h.off(9996, 4, h.off(9996, 4, -1) - 1));
        refused("0 is a square", 7, h -> h.off(2, -98, 0));
        refused("no 9999th", NONE, h -> h.off(2, 1, 9999));
    }

    // ---- 22 best

    static void bestBad() {
        sentence("22: above 0 .. 999999, below 1 .. 999999, MOST 1 .. 999; above (0), below (1). BAD");
        for (int part = 0; part <= 1; part++) {
            int asked = part;
            outside("best of above", 0, 999_999, (h, x) -> h.best(x, 7, 9, asked));
            outside("best of below", 1, 999_999, (h, x) -> h.best(7, x, 9, asked));
            outside("best of most", 1, 999, (h, x) -> h.best(7, 3, x, asked));
        }
        outside("best of part", 0, 1, (h, x) -> h.best(7, 3, 9, x));
        refused("best of 1000000", BAD, h -> h.best(1_000_000, 1_000_000, 9, 0));
        refused("best of all too great", BAD, h -> h.best(MOST, MOST, MOST, MOST));
    }

    static void best(Heaps h, int above, int below, int most) {
        long bestAbove = 0;
        long bestBelow = 1;
        for (long q = 1; q <= most; q++) {
            long cut = above * q / below;
            for (long p = cut; p <= cut + 1; p++) {
                // the gaps to the told fraction, both by the three belows
                long gap = Math.abs(above * q - p * below) * bestBelow;
                long bestGap = Math.abs(above * bestBelow - bestAbove * below) * q;
                if (gap < bestGap) {
                    bestAbove = p;
                    bestBelow = q;
                }
            }
        }
        String call = "best " + above + " " + below + " " + most;
        is(call + " above", h.best(above, below, most, 0), bestAbove);
        is(call + " below", h.best(above, below, most, 1), bestBelow);
    }

    static void bestAll() {
        sentence("22, Terms: that nearest to a told one, with a below of 1 .. MOST");
        for (int most : new int[] {1, 2, 3, 5, 8, 13, 998, 999}) {
            Heaps h = new Heaps();
            for (int below = 1; below <= 14; below++) {
                for (int above = 0; above <= 14; above++) {
                    best(h = h.left() < 2 ? new Heaps() : h, above, below, most);
                }
            }
            for (int v : new int[] {999_999, 999_998, 999_997, 500_000, 499_999, 1}) {
                for (int w : new int[] {999_999, 999_998, 500_001, 1998, 1999, 1000, 999, 998, 2, 1}) {
                    best(h = h.left() < 2 ? new Heaps() : h, v, w, most);
                    best(h = h.left() < 2 ? new Heaps() : h, 0, w, most);
                }
            }
        }
        refused("best changes nothing", 355, h -> h.best(314159, 100000, 200, 0));
    }

    static void best(int above, int below, int most, int dueAbove, int dueBelow) {
        String call = "best " + above + " " + below + " " + most;
        refused(call + " above", dueAbove, h -> h.best(above, below, most, 0));
        refused(call + " below", dueBelow, h -> h.best(above, below, most, 1));
    }

    static void bestLike() {
        sentence("22, Terms: of like ones that of the lesser below, then the lesser one");
        best(1, 2, 1, 0, 1);
        best(3, 2, 1, 1, 1);
        best(999_999, 2, 1, 499_999, 1);
        best(1, 4, 3, 1, 3);
        best(1, 4, 2, 0, 1);
        best(3, 4, 2, 1, 1);
        best(5, 12, 3, 1, 2);
        best(3, 8, 3, 1, 3);
        best(2, 4, 4, 1, 2);
        best(2, 4, 1, 0, 1);
        best(10, 10, 999, 1, 1);
        best(0, 999_999, 999, 0, 1);
        sentence("22, Terms: with a below of 1 .. MOST");
        best(1, 999, 999, 1, 999);
        best(1, 999, 998, 1, 998);
        best(1, 1000, 999, 1, 999);
        best(1, 1999, 999, 0, 1);
        best(1, 1998, 999, 0, 1);
        best(1, 1997, 999, 1, 999);
        best(999_999, 1, 1, 999_999, 1);
    }

    public static void main(String[] args) {
        bothAll();
        bothFull();
        bothPlaces();
        sideAll();
        oneBad();
        oneFirst();
        oneLeastOfAll();
        oneFull();
        oneFullByXAlone();
        onePlaces();
        less();
        roundLengths();
        roundParts();
        nearBad();
        nearAll();
        nearPlaces();
        offBad();
        offAll();
        offEdges();
        bestBad();
        bestAll();
        bestLike();
        end("PartsBoundaryTest");
    }
}
