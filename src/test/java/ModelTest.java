import java.math.BigInteger;
import java.util.ArrayList;
import java.util.Arrays;
import java.util.HashMap;
import java.util.List;
import java.util.Map;
import java.util.Random;

/** Long runs of chosen calls against a plain second reading of the document, made with BigInteger and trials. */
public class ModelTest {
    static final int BAD = -1, NOT = -2, FULL = -3, NONE = -4, NULL = -11, CAST = -12, INDEX = -13, SIZE = -14, ZERO = -15;
    static final BigInteger LIMIT = BigInteger.TEN.pow(216);
    static final BigInteger NINE = BigInteger.TEN.pow(9);
    // a step types 100 bytes one by one at the dearest; all places are told by 26 calls each
    static final int DEAREST_STEP = 140, COMPARE_ALL = 8 * 26;

    /** What a place holds: null, a BigInteger, or an int[] of kind and k. */
    static class Model {
        Object[] places = new Object[8];
        Object[] kept;
        long[][] rows = new long[4][];
        int[] lanes = new int[4];
        StringBuilder tape = new StringBuilder();

        static boolean place(int p) {
            return 0 <= p && p <= 7;
        }

        static int figures(BigInteger v) {
            return v.toString().length();
        }

        int keep(int to, BigInteger v) {
            if (v.compareTo(LIMIT) >= 0) {
                return FULL;
            }
            places[to] = v;
            return figures(v);
        }

        int askNumber(int p) {
            return places[p] == null ? NULL : places[p] instanceof BigInteger ? 0 : CAST;
        }

        int askShape(int p) {
            return places[p] == null ? NULL : places[p] instanceof int[] ? 0 : CAST;
        }

        BigInteger at(int p) {
            return (BigInteger) places[p];
        }

        int put(int p, long v) {
            return !place(p) || v < 0 ? BAD : keep(p, BigInteger.valueOf(v));
        }

        int shape(int p, int kind, int k) {
            boolean cornered = kind == 3 || kind == 4;
            boolean plain = kind == 0 || kind == 1 || kind == 2;
            if (!place(p) || !(plain && k == 0 || cornered && k >= 3 && k <= 99)) {
                return BAD;
            }
            places[p] = new int[] {kind, k};
            return 1;
        }

        int told(int p) {
            if (!place(p)) {
                return BAD;
            }
            Object o = places[p];
            return o == null ? 0 : o instanceof BigInteger ? 1 : 2 + ((int[]) o)[0];
        }

        int empty(int p) {
            int had = told(p);
            if (had >= 0) {
                places[p] = null;
            }
            return had;
        }

        int type(long w, int n) {
            if (n < 1 || n > 8) {
                return BAD;
            }
            String s = "";
            for (int i = 0; i < n; i++) {
                int b = (int) (w & 255);
                w >>>= 8;
                if (b < 32 || b > 126) {
                    return BAD;
                }
                s = (char) b + s;
            }
            if (tape.length() + n > 100) {
                return FULL;
            }
            tape.append(s);
            return tape.length();
        }

        int number(int p) {
            if (!place(p)) {
                return BAD;
            }
            String s = tape.toString();
            tape.setLength(0);
            String figures = "";
            for (int i = 0; i < s.length(); i++) {
                char c = s.charAt(i);
                if (c == ' ') {
                    continue;
                }
                if (!Character.isDigit(c) || figures.length() == 80) {
                    return -20 - i;
                }
                figures += c;
            }
            return figures.isEmpty() ? -20 - s.length() : keep(p, new BigInteger(figures));
        }

        int figuresOf(int p) {
            if (!place(p)) {
                return BAD;
            }
            int f = askNumber(p);
            return f != 0 ? f : figures(at(p));
        }

        int nine(int p, int i) {
            if (!place(p) || i < 0 || i > 23) {
                return BAD;
            }
            int f = askNumber(p);
            return f != 0 ? f : at(p).divide(NINE.pow(i)).mod(NINE).intValueExact();
        }

        int reckon(int what, int a, int b, int to) {
            if (what < 0 || what > 4 || !place(a) || !place(b) || !place(to)) {
                return BAD;
            }
            int f = askNumber(a) != 0 ? askNumber(a) : askNumber(b);
            if (f != 0) {
                return f;
            }
            BigInteger x = at(a);
            BigInteger y = at(b);
            if (what == 1 && x.compareTo(y) < 0) {
                return NOT;
            }
            if (what > 2 && y.signum() == 0) {
                return ZERO;
            }
            return keep(to, what == 0 ? x.add(y) : what == 1 ? x.subtract(y) : what == 2 ? x.multiply(y) : what == 3 ? x.divide(y) : x.mod(y));
        }

        int root(int a, int to) {
            if (!place(a) || !place(to)) {
                return BAD;
            }
            int f = askNumber(a);
            if (f != 0) {
                return f;
            }
            BigInteger v = at(a);
            BigInteger r = v.sqrt();
            places[to] = r;
            return r.multiply(r).equals(v) ? 1 : 0;
        }

        int order(int a, int b) {
            if (!place(a) || !place(b)) {
                return BAD;
            }
            int f = askNumber(a) != 0 ? askNumber(a) : askNumber(b);
            if (f != 0) {
                return f;
            }
            int c = at(a).compareTo(at(b));
            return c == 0 ? 0 : c > 0 ? 1 : 2;
        }

        static BigInteger term(int kind, int k, BigInteger n) {
            BigInteger n2 = n.multiply(n);
            BigInteger two = BigInteger.TWO;
            switch (kind) {
                case 0:
                    return n2;
                case 1:
                    return n2.add(n).divide(two);
                case 2:
                    return n2.add(n);
                case 3:
                    return n2.multiply(BigInteger.valueOf(k - 2)).subtract(n.multiply(BigInteger.valueOf(k - 4))).divide(two);
                default:
                    // the sums of squares and of sides
                    BigInteger squares = n.multiply(n.add(BigInteger.ONE)).multiply(n.multiply(two).add(BigInteger.ONE));
                    BigInteger sides = n2.add(n).multiply(BigInteger.valueOf(3));
                    return squares.multiply(BigInteger.valueOf(k - 2)).subtract(sides.multiply(BigInteger.valueOf(k - 4)))
                            .divide(BigInteger.valueOf(12));
            }
        }

        int nth(int shape, int n, int to) {
            if (!place(shape) || !place(n) || !place(to)) {
                return BAD;
            }
            int f = askShape(shape) != 0 ? askShape(shape) : askNumber(n);
            if (f != 0) {
                return f;
            }
            int[] s = (int[]) places[shape];
            return keep(to, term(s[0], s[1], at(n)));
        }

        int which(int shape, int a, int to) {
            if (!place(shape) || !place(a) || !place(to)) {
                return BAD;
            }
            int f = askShape(shape) != 0 ? askShape(shape) : askNumber(a);
            if (f != 0) {
                return f;
            }
            int[] s = (int[]) places[shape];
            BigInteger low = BigInteger.ZERO;
            BigInteger high = BigInteger.ONE;
            while (term(s[0], s[1], high).compareTo(at(a)) < 0) {
                high = high.shiftLeft(1);
            }
            while (low.compareTo(high) < 0) {
                BigInteger mid = low.add(high).shiftRight(1);
                if (term(s[0], s[1], mid).compareTo(at(a)) < 0) {
                    low = mid.add(BigInteger.ONE);
                } else {
                    high = mid;
                }
            }
            if (!term(s[0], s[1], low).equals(at(a))) {
                return 0;
            }
            places[to] = low;
            return 1;
        }

        /** x and y with x x - 2 y y = 1: squares that are triangles come from (3 + 2 root 2) to the i-th. */
        static BigInteger[] ladder(int i) {
            BigInteger x = BigInteger.ONE;
            BigInteger y = BigInteger.ZERO;
            for (int j = 0; j < i; j++) {
                BigInteger t = x.multiply(BigInteger.valueOf(3)).add(y.multiply(BigInteger.valueOf(4)));
                y = x.multiply(BigInteger.TWO).add(y.multiply(BigInteger.valueOf(3)));
                x = t;
            }
            return new BigInteger[] {x, y};
        }

        int both(int i, int to) {
            if (i < 0 || i > 200 || !place(to)) {
                return BAD;
            }
            BigInteger s = ladder(i)[1].divide(BigInteger.TWO);
            return keep(to, s.multiply(s));
        }

        int side(int i, int what, int to) {
            if (i < 0 || i > 200 || !place(to) || what < 0 || what > 1) {
                return BAD;
            }
            BigInteger[] xy = ladder(i);
            return keep(to, what == 0 ? xy[1].divide(BigInteger.TWO) : xy[0].subtract(BigInteger.ONE).divide(BigInteger.TWO));
        }

        static boolean rootless(int d) {
            int r = (int) Math.sqrt(d);
            return d >= 2 && d <= 9999 && r * r != d;
        }

        static List<Integer> parts(int d, int upTo) {
            List<Integer> parts = new ArrayList<>();
            int r = (int) Math.sqrt(d);
            // the i-th rest is (root of d + m) by q
            int m = 0;
            int q = 1;
            while (parts.size() <= upTo) {
                int a = (m + r) / q;
                parts.add(a);
                m = a * q - m;
                q = (d - m * m) / q;
            }
            return parts;
        }

        static BigInteger[] near(int d, int i) {
            List<Integer> parts = parts(d, i);
            BigInteger above = BigInteger.valueOf(parts.get(i));
            BigInteger below = BigInteger.ONE;
            for (int j = i - 1; j >= 0; j--) {
                BigInteger t = above;
                above = above.multiply(BigInteger.valueOf(parts.get(j))).add(below);
                below = t;
            }
            return new BigInteger[] {above, below};
        }

        static final Map<Integer, BigInteger[]> LEAST = new HashMap<>();

        /** The first x, y in rising order of all near fractions with x x one more than d y y. */
        static BigInteger[] least(int d) {
            return LEAST.computeIfAbsent(d, key -> {
                BigInteger big = BigInteger.valueOf(d);
                for (int i = 0; i < 1000; i++) {
                    BigInteger[] f = near(d, i);
                    if (f[0].multiply(f[0]).subtract(f[1].multiply(f[1]).multiply(big)).equals(BigInteger.ONE)) {
                        return f;
                    }
                }
                throw new IllegalStateException();
            });
        }

        int one(int d, int n, int x, int y) {
            if (!rootless(d) || n < 1 || n > 99 || !place(x) || !place(y) || x == y) {
                return BAD;
            }
            BigInteger[] least = least(d);
            BigInteger p = least[0];
            BigInteger q = least[1];
            for (int i = 1; i < n; i++) {
                BigInteger t = p.multiply(least[0]).add(q.multiply(least[1]).multiply(BigInteger.valueOf(d)));
                q = p.multiply(least[1]).add(q.multiply(least[0]));
                p = t;
            }
            if (p.compareTo(LIMIT) >= 0) {
                return FULL;
            }
            places[y] = q;
            return keep(x, p);
        }

        static final Map<Integer, Integer> ROUNDS = new HashMap<>();

        static int roundOf(int d) {
            return ROUNDS.computeIfAbsent(d, key -> {
                List<Integer> parts = parts(d, 1000);
                return parts.subList(1, 1001).indexOf(2 * parts.get(0)) + 1;
            });
        }

        int less(int d) {
            if (!rootless(d)) {
                return BAD;
            }
            BigInteger[] f = near(d, roundOf(d) - 1);
            return f[0].multiply(f[0]).subtract(f[1].multiply(f[1]).multiply(BigInteger.valueOf(d))).signum() < 0 ? 1 : 0;
        }

        int round(int d, int i) {
            if (!rootless(d) || i < -1 || i > 9999) {
                return BAD;
            }
            return i < 0 ? roundOf(d) : parts(d, i).get(i);
        }

        int nearTo(int d, int i, int above, int below) {
            if (!rootless(d) || i < 0 || i > 200 || !place(above) || !place(below) || above == below) {
                return BAD;
            }
            BigInteger[] f = near(d, i);
            if (f[0].compareTo(LIMIT) >= 0) {
                return FULL;
            }
            places[below] = f[1];
            return keep(above, f[0]);
        }

        static boolean square(long v) {
            if (v < 0) {
                return false;
            }
            long r = Math.round(Math.sqrt((double) v));
            return r * r == v;
        }

        static int pick(List<Integer> all, int i) {
            return i == -1 ? all.size() : i < all.size() ? all.get(i) : NONE;
        }

        int off(int d, int off, int i) {
            if (!rootless(d) || off < -99 || off > 99 || i < -1 || i > 9999) {
                return BAD;
            }
            List<Integer> ys = new ArrayList<>();
            for (int y = 0; y < 10000; y++) {
                if (square((long) d * y * y + off)) {
                    ys.add(y);
                }
            }
            return pick(ys, i);
        }

        int best(int above, int below, int most, int part) {
            if (above < 0 || above > 999999 || below < 1 || below > 999999 || most < 1 || most > 999 || part < 0 || part > 1) {
                return BAD;
            }
            long bestP = 0;
            long bestQ = 1;
            for (long q = 1; q <= most; q++) {
                long middle = above * q / below;
                for (long p = Math.max(0, middle - 2); p <= middle + 3; p++) {
                    // |above / below - p / q| against the best one's
                    long mine = Math.abs(above * q - p * below) * bestQ;
                    long others = Math.abs(above * bestQ - bestP * below) * q;
                    if (mine < others) {
                        bestP = p;
                        bestQ = q;
                    }
                }
            }
            return (int) (part == 0 ? bestP : bestQ);
        }

        int two(int n, int i) {
            if (n < 0 || n > 1000000000 || i < -1) {
                return BAD;
            }
            List<Integer> as = new ArrayList<>();
            for (long a = 0; 2 * a * a <= n; a++) {
                if (square(n - a * a)) {
                    as.add((int) a);
                }
            }
            return pick(as, i);
        }

        int three(int n, int i) {
            if (n < 0 || n > 1000000 || i < 0 || i > 2) {
                return BAD;
            }
            for (int a = 0;; a++) {
                for (int b = a; a * (a + 1) / 2 + b * (b + 1) <= n; b++) {
                    int rest = n - a * (a + 1) / 2 - b * (b + 1) / 2;
                    if (square(8L * rest + 1)) {
                        int c = (int) (Math.round(Math.sqrt(8.0 * rest + 1)) - 1) / 2;
                        return new int[] {a, b, c}[i];
                    }
                }
            }
        }

        int four(int n, int i) {
            if (n < 0 || n > 1000000 || i < 0 || i > 3) {
                return BAD;
            }
            for (int a = 0;; a++) {
                for (int b = a; a * a + 3 * b * b <= n; b++) {
                    for (int c = b; a * a + b * b + 2 * c * c <= n; c++) {
                        int rest = n - a * a - b * b - c * c;
                        if (square(rest)) {
                            return new int[] {a, b, c, (int) Math.round(Math.sqrt(rest))}[i];
                        }
                    }
                }
            }
        }

        int fewest(int n) {
            if (n < 0 || n > 1000000000) {
                return BAD;
            }
            if (n == 0 || square(n)) {
                return n == 0 ? 0 : 1;
            }
            if (two(n, -1) > 0) {
                return 2;
            }
            for (long a = 1; 3 * a * a <= n; a++) {
                if (two((int) (n - a * a), -1) > 0) {
                    return 3;
                }
            }
            return 4;
        }

        int wall(int path, int i) {
            if (path < 1 || path > 999 || i < -1) {
                return BAD;
            }
            List<Integer> as = new ArrayList<>();
            for (long a = 2 * path + 1; a <= 7L * path; a++) {
                // a b = 2 (a - 2 path) (b - 2 path)
                long times = 2 * (a - 2 * path) - a;
                long due = 4 * path * (a - 2 * path);
                if (times > 0 && due % times == 0 && due / times >= a && due / times > 2 * path) {
                    as.add((int) a);
                }
            }
            return pick(as, i);
        }

        int flat(int k, int i) {
            if (k < 3 || k > 99 || i < -1) {
                return BAD;
            }
            List<Integer> ns = new ArrayList<>();
            long heap = 0;
            long corner = 0;
            for (int n = 1; n <= 3000; n++) {
                corner += 1 + (n - 1) * (k - 2L);
                heap += corner;
                if (square(heap)) {
                    ns.add(n);
                }
            }
            return pick(ns, i);
        }

        int corners(int h, int i) {
            if (h < 1 || h > 500 || i < -1) {
                return BAD;
            }
            List<Integer> all = new ArrayList<>();
            for (int c = 1; c <= h; c++) {
                for (int a = 1; a < c; a++) {
                    int b2 = c * c - a * a;
                    if (b2 > a * a && square(b2)) {
                        all.add(1000 * a + c);
                    }
                }
            }
            return pick(all, i);
        }

        static int[] strings;

        int string(int length) {
            if (length < 1 || length > 100000) {
                return BAD;
            }
            if (strings == null) {
                strings = new int[100001];
                for (int m = 2; 2 * m * m < 100001; m++) {
                    for (int n = 1; n < m; n++) {
                        if ((m - n) % 2 == 1 && BigInteger.valueOf(m).gcd(BigInteger.valueOf(n)).intValue() == 1) {
                            for (int s = 2 * m * (m + n); s <= 100000; s += 2 * m * (m + n)) {
                                strings[s]++;
                            }
                        }
                    }
                }
            }
            return strings[length];
        }

        /** A slow reader of claims: what may stand at a place is asked byte by byte. */
        int claims() {
            String s = tape.toString();
            tape.setLength(0);
            int at = 0;
            int wrong = NONE;
            for (int claim = 0; claim < 8; claim++) {
                int[] after = new int[1];
                BigInteger value = numberAt(s, at, after, null, null);
                if (value == null) {
                    return -20 - after[0];
                }
                at = skip(s, after[0]);
                if (at >= s.length() || s.charAt(at) != '=') {
                    return -20 - at;
                }
                at = skip(s, at + 1);
                int kind = at < s.length() ? List.of('s', 't', 'o', 'c', 'h').indexOf(s.charAt(at)) : -1;
                if (kind < 0) {
                    return -20 - at;
                }
                at++;
                int k = 0;
                if (kind > 2) {
                    BigInteger corners = numberAt(s, at, after, BigInteger.valueOf(3), BigInteger.valueOf(99));
                    if (corners == null) {
                        return -20 - after[0];
                    }
                    k = corners.intValueExact();
                    at = skip(s, after[0]);
                    if (at >= s.length() || s.charAt(at) != ':') {
                        return -20 - at;
                    }
                    at++;
                }
                BigInteger n = numberAt(s, at, after, BigInteger.ZERO, BigInteger.valueOf(999999999));
                if (n == null) {
                    return -20 - after[0];
                }
                if (wrong == NONE && !term(kind, k, n).equals(value)) {
                    wrong = claim;
                }
                at = skip(s, after[0]);
                if (at >= s.length()) {
                    return wrong;
                }
                if (s.charAt(at) != ',') {
                    return -20 - at;
                }
                at++;
                if (claim == 7) {
                    return -20 - (at - 1);
                }
            }
            return wrong;
        }

        static int skip(String s, int at) {
            while (at < s.length() && s.charAt(at) == ' ') {
                at++;
            }
            return at;
        }

        static BigInteger numberAt(String s, int from, int[] after, BigInteger least, BigInteger most) {
            int start = skip(s, from);
            int end = start;
            while (end < s.length() && Character.isDigit(s.charAt(end))) {
                end++;
            }
            after[0] = start;
            if (end == start || end - start > 18) {
                return null;
            }
            BigInteger v = new BigInteger(s.substring(start, end));
            if (least != null && (v.compareTo(least) < 0 || v.compareTo(most) > 0)) {
                return null;
            }
            after[0] = end;
            return v;
        }

        int image() {
            kept = places.clone();
            return 1;
        }

        int restore() {
            if (kept == null) {
                return NONE;
            }
            places = kept.clone();
            return 1;
        }

        int askSheet(int sheet, int lane, long from, int n) {
            if (rows[sheet] == null) {
                return NULL;
            }
            if (lanes[sheet] != lane) {
                return CAST;
            }
            return from < 0 || from + n > rows[sheet].length ? INDEX : 0;
        }

        static boolean sheetAndLane(int sheet, int lane) {
            return 0 <= sheet && sheet <= 3 && 0 <= lane && lane <= 2;
        }

        static long cut(int lane, long v) {
            return lane == 0 ? (short) v : lane == 1 ? (int) v : v;
        }

        int heap(int sheet, int lane, int from, int n, int to) {
            if (!sheetAndLane(sheet, lane) || n < 1 || n > 24 || !place(to)) {
                return BAD;
            }
            int f = askSheet(sheet, lane, from, n);
            if (f != 0) {
                return f;
            }
            BigInteger sum = BigInteger.ZERO;
            for (int i = 0; i < n; i++) {
                if (rows[sheet][from + i] < 0) {
                    return NOT;
                }
                sum = sum.add(BigInteger.valueOf(rows[sheet][from + i]));
            }
            return keep(to, sum);
        }

        int sheet(int sheet, int lane, int n) {
            if (!sheetAndLane(sheet, lane) || n > 24) {
                return BAD;
            }
            if (n < 0) {
                return SIZE;
            }
            rows[sheet] = new long[n];
            lanes[sheet] = lane;
            return n;
        }

        int drop(int sheet) {
            if (sheet < 0 || sheet > 3) {
                return BAD;
            }
            if (rows[sheet] == null) {
                return NULL;
            }
            int had = rows[sheet].length;
            rows[sheet] = null;
            return had;
        }

        int item(int sheet, int lane, int i, long v) {
            if (!sheetAndLane(sheet, lane)) {
                return BAD;
            }
            int f = askSheet(sheet, lane, i, 1);
            if (f != 0) {
                return f;
            }
            rows[sheet][i] = cut(lane, v);
            return 1;
        }

        int film(int p, int sheet, int lane, int from) {
            if (!place(p) || !sheetAndLane(sheet, lane)) {
                return BAD;
            }
            int f = askNumber(p);
            if (f != 0) {
                return f;
            }
            int n = (figures(at(p)) + 8) / 9;
            f = askSheet(sheet, lane, from, n);
            if (f != 0) {
                return f;
            }
            for (int i = 0; i < n; i++) {
                rows[sheet][from + i] = cut(lane, nine(p, i));
            }
            return n;
        }
    }

    static int wrong;
    static int asked;
    static Random random;
    static Heaps heaps;
    static Model model;

    static int wild() {
        int[] some = {Integer.MIN_VALUE, Integer.MAX_VALUE, -1, -2, 1 << 30, 100, 10000, 1000000000, 65536, 0};
        return random.nextInt(3) == 0 ? random.nextInt() : some[random.nextInt(some.length)];
    }

    /** Mostly from least to most, at times an edge or just over it, at times anything. */
    static int from(int least, int most) {
        int luck = random.nextInt(60);
        if (luck == 0) {
            return wild();
        }
        if (luck < 4) {
            return least - 1 + random.nextInt(3);
        }
        if (luck < 7) {
            return most - 1 + random.nextInt(3);
        }
        return least + random.nextInt(most - least + 1);
    }

    static int p() {
        return from(0, 7);
    }

    static int small(int most) {
        return random.nextInt(3) == 0 ? from(0, most) : from(0, Math.min(most, 60));
    }

    static int rootless() {
        return random.nextInt(3) == 0 ? from(2, 9999) : from(2, 120);
    }

    static long anyLong() {
        long v = random.nextLong() >>> random.nextInt(64);
        return random.nextInt(12) == 0 ? -v : v;
    }

    static void is(String call, int got, int due) {
        asked++;
        if (got != due) {
            wrong++;
            if (wrong < 40) {
                System.out.println(call + ": " + got + ", due " + due);
            }
        }
    }

    static void type(long w, int n) {
        is("type " + Long.toHexString(w) + " " + n, heaps.type(w, n), model.type(w, n));
    }

    static void typeText(String s) {
        for (int i = 0; i < s.length();) {
            int n = Math.min(1 + random.nextInt(8), s.length() - i);
            long w = random.nextInt(3) == 0 ? random.nextLong() : 0;
            for (int j = 0; j < n; j++) {
                w = w << 8 | s.charAt(i + j);
            }
            type(w, n);
            i += n;
        }
    }

    static String blank() {
        return random.nextInt(9) == 0 ? " ".repeat(1 + random.nextInt(2)) : "";
    }

    static String spoilt(String s) {
        if (random.nextInt(3) != 0 || s.isEmpty()) {
            return s;
        }
        String signs = "0123456789=:,stoch xX-;";
        int at = random.nextInt(s.length() + 1);
        char sign = signs.charAt(random.nextInt(signs.length()));
        int how = random.nextInt(3);
        String ahead = s.substring(0, at);
        if (how == 0 || at == s.length()) {
            return ahead + sign + s.substring(at);
        }
        return how == 1 ? ahead + s.substring(at + 1) : ahead + sign + s.substring(at + 1);
    }

    static String claim() {
        int kind = random.nextInt(5);
        int k = random.nextInt(9) == 0 ? from(3, 99) : 3 + random.nextInt(97);
        long n = random.nextInt(20) == 0 ? 999999999L + random.nextInt(2) : random.nextInt(random.nextInt(4) == 0 ? 1000000000 : 300);
        BigInteger value = Model.term(kind, Math.max(3, k), BigInteger.valueOf(n));
        if (random.nextInt(4) == 0) {
            value = value.add(BigInteger.ONE);
        }
        String noughts = random.nextInt(12) == 0 ? "0".repeat(random.nextInt(18)) : "";
        String behind = random.nextInt(12) == 0 ? "0".repeat(random.nextInt(18)) : "";
        return blank() + noughts + value + blank() + "=" + blank() + "stoch".charAt(kind) + blank()
                + (kind > 2 ? k + blank() + ":" + blank() : "") + behind + n + blank();
    }

    static void typeClaims() {
        int n = 1 + random.nextInt(9);
        StringBuilder all = new StringBuilder();
        for (int i = 0; i < n; i++) {
            all.append(i == 0 ? "" : ",").append(random.nextInt(3) == 0 ? "0=s0" : claim());
        }
        typeText(spoilt(all.toString()));
    }

    static void typeNumber() {
        int n = random.nextInt(8) == 0 ? 79 + random.nextInt(3) : random.nextInt(80);
        StringBuilder all = new StringBuilder();
        for (int i = 0; i < n; i++) {
            all.append(random.nextInt(4) == 0 ? 0 : random.nextInt(10));
            all.append(random.nextInt(30) == 0 ? " " : "");
        }
        typeText(random.nextInt(4) == 0 ? spoilt(all.toString()) : all.toString());
    }

    static void places() {
        int a = p();
        int b = p();
        int c = p();
        switch (random.nextInt(13)) {
            case 0:
                long v = anyLong();
                is("put " + a + " " + v, heaps.put(a, v), model.put(a, v));
                break;
            case 1:
                int kind = from(0, 4);
                int k = kind < 3 && random.nextInt(9) != 0 ? 0 : from(3, 99);
                is("shape " + a + " " + kind + " " + k, heaps.shape(a, kind, k), model.shape(a, kind, k));
                break;
            case 2:
                if (random.nextInt(4) == 0) {
                    is("empty " + a, heaps.empty(a), model.empty(a));
                }
                is("told " + a, heaps.told(a), model.told(a));
                break;
            case 3:
                int n = from(1, 8);
                long w = random.nextInt(3) == 0 ? random.nextLong() : 0x2131415161717E20L;
                type(w, n);
                break;
            case 4:
                if (random.nextInt(3) == 0) {
                    is("number " + a, heaps.number(a), model.number(a));
                }
                typeNumber();
                is("number " + a, heaps.number(a), model.number(a));
                break;
            case 5:
                int i = from(0, 23);
                is("nine " + a + " " + i, heaps.nine(a, i), model.nine(a, i));
                break;
            case 6:
            case 7:
                int what = random.nextInt(20) == 0 ? from(0, 4) : random.nextInt(5);
                is("reckon " + what + " " + a + " " + b + " " + c, heaps.reckon(what, a, b, c), model.reckon(what, a, b, c));
                break;
            case 8:
                is("root " + a + " " + b, heaps.root(a, b), model.root(a, b));
                break;
            case 9:
                is("order " + a + " " + b, heaps.order(a, b), model.order(a, b));
                break;
            case 10:
                is("nth " + a + " " + b + " " + c, heaps.nth(a, b, c), model.nth(a, b, c));
                is("which " + a + " " + c + " " + b, heaps.which(a, c, b), model.which(a, c, b));
                break;
            case 11:
                is("which " + a + " " + b + " " + c, heaps.which(a, b, c), model.which(a, b, c));
                break;
            default:
                is("figures " + a, heaps.figures(a), model.figuresOf(a));
        }
    }

    static void parts() {
        int d = rootless();
        int x = p();
        int y = p();
        int i = from(0, 200);
        switch (random.nextInt(8)) {
            case 0:
                is("both " + i + " " + x, heaps.both(i, x), model.both(i, x));
                break;
            case 1:
                int what = from(0, 1);
                is("side " + i + " " + what + " " + x, heaps.side(i, what, x), model.side(i, what, x));
                break;
            case 2:
                int n = random.nextInt(3) == 0 ? from(1, 99) : from(1, 6);
                is("one " + d + " " + n + " " + x + " " + y, heaps.one(d, n, x, y), model.one(d, n, x, y));
                break;
            case 3:
                is("less " + d, heaps.less(d), model.less(d));
                break;
            case 4:
                int j = random.nextInt(3) == 0 ? from(-1, 9999) : from(-1, 30);
                is("round " + d + " " + j, heaps.round(d, j), model.round(d, j));
                break;
            case 5:
                is("near " + d + " " + i + " " + x + " " + y, heaps.near(d, i, x, y), model.nearTo(d, i, x, y));
                break;
            case 6:
                int off = from(-99, 99);
                int o = random.nextInt(8) == 0 ? from(-1, 9999) : from(-1, 3);
                is("off " + d + " " + off + " " + o, heaps.off(d, off, o), model.off(d, off, o));
                break;
            default:
                int above = small(999999);
                int below = random.nextBoolean() ? from(1, 999999) : from(1, 40);
                int most = random.nextBoolean() ? from(1, 999) : from(1, 20);
                int part = from(0, 1);
                is("best " + above + " " + below + " " + most + " " + part, heaps.best(above, below, most, part), model.best(above, below, most, part));
        }
    }

    static void counts() {
        int i = from(-1, 4);
        switch (random.nextInt(12)) {
            case 0:
                int n = random.nextBoolean() ? from(0, 1000000000) : 5 * 13 * 17 * small(9000);
                is("two " + n + " " + i, heaps.two(n, i), model.two(n, i));
                break;
            case 1:
                int t = small(1000000);
                is("three " + t + " " + i, heaps.three(t, i), model.three(t, i));
                break;
            case 2:
                int f = small(1000000);
                is("four " + f + " " + i, heaps.four(f, i), model.four(f, i));
                break;
            case 3:
                int w = small(3000000);
                is("fewest " + w, heaps.fewest(w), model.fewest(w));
                break;
            case 4:
                int path = small(999);
                is("wall " + path + " " + i, heaps.wall(path, i), model.wall(path, i));
                break;
            case 5:
                int k = from(3, 99);
                is("flat " + k + " " + i, heaps.flat(k, i), model.flat(k, i));
                break;
            case 6:
                int h = small(500);
                int j = random.nextBoolean() ? i : from(-1, 400);
                is("corners " + h + " " + j, heaps.corners(h, j), model.corners(h, j));
                break;
            case 7:
                int length = 2 * small(50000);
                is("string " + length, heaps.string(length), model.string(length));
                break;
            case 8:
            case 9:
                if (random.nextInt(3) != 0) {
                    typeClaims();
                }
                is("claims", heaps.claims(), model.claims());
                break;
            case 10:
                if (random.nextInt(4) == 0) {
                    is("image", heaps.image(), model.image());
                }
                break;
            default:
                if (random.nextInt(8) == 0) {
                    is("restore", heaps.restore(), model.restore());
                }
        }
    }

    static void sheets() {
        int s = from(0, 3);
        int lane = model != null && s >= 0 && s < 4 && random.nextInt(8) != 0 ? model.lanes[s] : from(0, 2);
        int at = from(0, 23);
        switch (random.nextInt(8)) {
            case 0:
            case 1:
                int n = random.nextBoolean() ? from(1, 24) : from(1, 4);
                int to = p();
                is("heap " + s + " " + lane + " " + at + " " + n + " " + to, heaps.heap(s, lane, at, n, to), model.heap(s, lane, at, n, to));
                is("heap " + s + " " + lane + " 0 " + n + " " + to, heaps.heap(s, lane, 0, n, to), model.heap(s, lane, 0, n, to));
                break;
            case 2:
                int newLane = from(0, 2);
                int items = from(0, 24);
                is("sheet " + s + " " + newLane + " " + items, heaps.sheet(s, newLane, items), model.sheet(s, newLane, items));
                break;
            case 3:
                if (random.nextInt(8) == 0) {
                    is("drop " + s, heaps.drop(s), model.drop(s));
                }
                break;
            case 4:
            case 5:
                long v = anyLong();
                is("item " + s + " " + lane + " " + at + " " + v, heaps.item(s, lane, at, v), model.item(s, lane, at, v));
                break;
            default:
                int place = p();
                is("film " + place + " " + s + " " + lane + " " + at, heaps.film(place, s, lane, at), model.film(place, s, lane, at));
                is("film " + place + " " + s + " " + lane + " 0", heaps.film(place, s, lane, 0), model.film(place, s, lane, 0));
        }
    }

    /** What a place tells, as the model has it: of a number the nines that are asked for. */
    static void compare(int place, int... nines) {
        is("then told " + place, heaps.told(place), model.told(place));
        if (model.told(place) == 1) {
            is("then figures " + place, heaps.figures(place), model.figuresOf(place));
            for (int i : nines) {
                is("then nine " + place + " " + i, heaps.nine(place, i), model.nine(place, i));
            }
        }
    }

    static void compareChanged(Object[] before) {
        for (int place = 0; place < 8; place++) {
            if (before[place] != model.places[place]) {
                int last = Math.max(0, (model.figuresOf(place) - 1) / 9);
                compare(place, 0, last, random.nextInt(24));
            }
        }
    }

    static void compareAll() {
        for (int place = 0; place < 8; place++) {
            int[] all = new int[24];
            for (int i = 0; i < 24; i++) {
                all[i] = i;
            }
            compare(place, all);
        }
    }

    /** As many calls as are promised of one object. */
    static void run(int seed) {
        random = new Random(seed);
        heaps = new Heaps();
        model = new Model();
        int before = wrong;
        int focus = seed % 5;
        while (heaps.left() >= DEAREST_STEP + COMPARE_ALL && wrong == before) {
            Object[] places = model.places.clone();
            int luck = random.nextInt(8) < 4 ? focus : random.nextInt(5);
            if (luck < 2) {
                places();
            } else if (luck == 2) {
                parts();
            } else if (luck == 3) {
                counts();
            } else {
                sheets();
            }
            compareChanged(places);
        }
        compareAll();
        if (wrong != before) {
            System.out.println("in the run of seed " + seed);
        }
    }

    public static void main(String[] args) {
        int runs = args.length > 0 ? Integer.parseInt(args[0]) : 1000;
        for (int seed = 0; seed < runs && wrong < 40; seed++) {
            run(seed);
        }
        System.out.println("ModelTest: " + asked + " asked, " + wrong + " wrong");
        System.exit(wrong == 0 ? 0 : 1);
    }
}
