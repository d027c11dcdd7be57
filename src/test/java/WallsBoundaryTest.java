import java.math.BigInteger;
import java.util.ArrayList;
import java.util.Arrays;
import java.util.List;

/** Promises 23 to 33: each sentence that names a boundary case has a test of its own. */
public class WallsBoundaryTest extends Boundaries {

    interface Row {
        int at(Heaps h, int i);
    }

    private static Heaps one = new Heaps();

    /** An object that may still be asked so many times; what these calls ask changes nothing in it. */
    static Heaps asking(int times) {
        one = one.left() < times ? new Heaps() : one;
        return one;
    }

    /** How many there are, each of them, and no more behind the last. */
    static void row(String call, List<Integer> due, Row row) {
        is(call + " how many", row.at(asking(1), -1), due.size());
        for (int i = 0; i < due.size(); i++) {
            is(call + " the " + i + "th", row.at(asking(1), i), due.get(i));
        }
        is(call + " behind the last", row.at(asking(1), due.size()), NONE);
    }

    // ---- 23 two

    static List<Integer> ways(int n) {
        List<Integer> as = new ArrayList<>();
        for (long a = 0; 2 * a * a <= n; a++) {
            if (isSquare(n - a * a)) {
                as.add((int) a);
            }
        }
        return as;
    }

    static void twoBad() {
        sentence("23: n (0 .. 10^9); i (-1, 0 ..). BAD");
        outside("two of n", 0, 1_000_000_000, (h, x) -> h.two(x, 0));
        outside("two of n, how many", 0, 1_000_000_000, (h, x) -> h.two(x, -1));
        below("two of i", -1, (h, x) -> h.two(25, x));
        refused("two of 10^9", 1200, h -> h.two(1_000_000_000, 0));
        refused("two of 0", 0, h -> h.two(0, 0));
        sentence("23: NONE");
        refused("two of 25", NONE, h -> h.two(25, 2));
        refused("two of 3", NONE, h -> h.two(3, 0));
        refused("two far behind", NONE, h -> h.two(25, MOST));
        refused("two far behind", NONE, h -> h.two(25, 1_000_000));
        sentence("23: BAD ahead of NONE");
        below("two of i, none there", -1, (h, x) -> h.two(3, x));
        outside("two of n, far behind", 0, 1_000_000_000, (h, x) -> h.two(x, MOST));
    }

    static void twoAll() {
        sentence("23: WAYS of n as TWO: how many (-1), a of the i-th (0 ..); Terms: a no more than b, by rising a");
        for (int n = 0; n <= 1200; n++) {
            row("two " + n, ways(n), n(n, (h, x, i) -> h.two(x, i)));
        }
        for (int n : new int[] {5525, 1_000_000, 999_999_937, 1_000_000_000, 999_999_999, 999_999_986, 999_950_884, 999_887_641, 999_950_885,
            5 * 5 * 13 * 17 * 29 * 37, 928_236_725, 1 << 29, 998_712_005, 999_824_410}) {
            row("two " + n, ways(n), n(n, (h, x, i) -> h.two(x, i)));
        }
        refused("two of like sides", 5, h -> h.two(50, 1));
        refused("two of a side 0", 0, h -> h.two(49, 0));
    }

    interface RowOf {
        int at(Heaps h, int n, int i);
    }

    static Row n(int n, RowOf rows) {
        return (h, i) -> rows.at(h, n, i);
    }

    // ---- 24 three, 25 four, 26 fewest

    static void threeBad() {
        sentence("24: n (0 .. 10^6): the i-th of the row (0 .. 2). BAD");
        for (int i = 0; i <= 2; i++) {
            int asked = i;
            outside("three of n, " + i, 0, 1_000_000, (h, x) -> h.three(x, asked));
        }
        for (int n : new int[] {0, 5, 1_000_000}) {
            outside("three of i", 0, 2, (h, x) -> h.three(n, x));
        }
    }

    static void threeAll() {
        sentence("24, Terms: each no less than the one before: the first as a row");
        for (int n = 0; n <= 1500; n++) {
            three(n);
        }
        for (int n : new int[] {1_000_000, 999_999, 999_998, 499_500, 999_995, 12_345, 500_500}) {
            three(n);
        }
        refused("three changes nothing", 8, h -> h.three(36, 2));
    }

    static int triangle(int n) {
        return n * (n + 1) / 2;
    }

    static void three(int n) {
        for (int a = 0; 3 * triangle(a) <= n; a++) {
            for (int b = a; triangle(a) + 2 * triangle(b) <= n; b++) {
                int rest = n - triangle(a) - triangle(b);
                int c = (int) Math.round((Math.sqrt(8.0 * rest + 1) - 1) / 2);
                if (triangle(c) == rest) {
                    is("three " + n + " a", asking(1).three(n, 0), a);
                    is("three " + n + " b", asking(1).three(n, 1), b);
                    is("three " + n + " c", asking(1).three(n, 2), c);
                    return;
                }
            }
        }
        is("three " + n + " by trials", "none", "some");
    }

    static void fourBad() {
        sentence("25: n (0 .. 10^6): the i-th of the row (0 .. 3). BAD");
        for (int i = 0; i <= 3; i++) {
            int asked = i;
            outside("four of n, " + i, 0, 1_000_000, (h, x) -> h.four(x, asked));
        }
        for (int n : new int[] {0, 7, 1_000_000}) {
            outside("four of i", 0, 3, (h, x) -> h.four(n, x));
        }
    }

    static void fourAll() {
        sentence("25, Terms: four numbers so: the first as a row");
        for (int n = 0; n <= 1500; n++) {
            four(n);
        }
        for (int n : new int[] {1_000_000, 999_999, 999_998, 999_996, 999_992, 7 << 16, 28 << 14, 23 << 12, 60 << 12, 112 << 12, 524_288, 240 << 12}) {
            four(n);
        }
        refused("four changes nothing", 2, h -> h.four(7, 3));
    }

    static void four(int n) {
        for (int a = 0; 4 * a * a <= n; a++) {
            for (int b = a; a * a + 3 * b * b <= n; b++) {
                for (int c = b; a * a + b * b + 2 * c * c <= n; c++) {
                    int rest = n - a * a - b * b - c * c;
                    if (isSquare(rest)) {
                        is("four " + n + " a", asking(1).four(n, 0), a);
                        is("four " + n + " b", asking(1).four(n, 1), b);
                        is("four " + n + " c", asking(1).four(n, 2), c);
                        is("four " + n + " d", asking(1).four(n, 3), Math.round(Math.sqrt(rest)));
                        return;
                    }
                }
            }
        }
        is("four " + n + " by trials", "none", "some");
    }

    static void fewest() {
        sentence("26: FEWEST for n (0 .. 10^9; of 0: 0). BAD");
        outside("fewest of n", 0, 1_000_000_000, (h, x) -> h.fewest(x));
        refused("fewest of 0", 0, h -> h.fewest(0));
        refused("fewest of 1", 1, h -> h.fewest(1));
        refused("fewest of 10^9", 2, h -> h.fewest(1_000_000_000));
        int[] fewest = new int[4001];
        Arrays.fill(fewest, 9);
        fewest[0] = 0;
        for (int n = 1; n < fewest.length; n++) {
            for (int a = 1; a * a <= n; a++) {
                fewest[n] = Math.min(fewest[n], 1 + fewest[n - a * a]);
            }
        }
        for (int n = 0; n < fewest.length; n++) {
            is("fewest " + n, asking(1).fewest(n), fewest[n]);
        }
        sentence("26, Terms: the fewest squares above 0 together n, of great n");
        int[] ones = {31_622 * 31_622, 31_621 * 31_621, 1 << 28};
        int[] fours = {7 << 26, 15 << 24, 7 << 24, 7 << 22, 999_999_999, 999_999_991, 28 << 20, 31 << 24, 999_999_983};
        int[] threes = {999_999_998, 3 << 28, 11 << 26, 14 << 26, 6 << 26};
        int[] twos = {999_999_937, 1 << 29, 2 * 22_360 * 22_360, 5 << 26};
        fewestOfEach(ones, 1);
        fewestOfEach(twos, 2);
        fewestOfEach(threes, 3);
        fewestOfEach(fours, 4);
    }

    static void fewestOfEach(int[] ns, int due) {
        for (int n : ns) {
            boolean two = !ways(n).isEmpty();
            is("fewest " + n + " as it must be", due == 1 ? isSquare(n) ? 1 : 0 : due == 2 ? two && !isSquare(n) ? 1 : 0 : two ? 0 : 1, 1);
            is("fewest " + n, asking(1).fewest(n), due);
        }
    }

    // ---- 27 wall, 28 flat

    static void wallBad() {
        sentence("27: a PATH (1 .. 999): how many (-1), of the i-th (0 ..) a. BAD");
        outside("wall of path", 1, 999, (h, x) -> h.wall(x, 0));
        outside("wall of path, how many", 1, 999, (h, x) -> h.wall(x, -1));
        refused("wall of path 0", BAD, h -> h.wall(0, -1));
        below("wall of i", -1, (h, x) -> h.wall(1, x));
        sentence("27: NONE");
        refused("wall", 6, h -> h.wall(1, 1));
        refused("wall behind the last", NONE, h -> h.wall(1, 2));
        refused("wall far behind", NONE, h -> h.wall(1, MOST));
        sentence("27: BAD ahead of NONE");
        outside("wall of path, far behind", 1, 999, (h, x) -> h.wall(x, MOST));
    }

    static void wallAll() {
        sentence("27, Terms: as many stones in the PATH as inside it (a no more than b), by rising a, each more than twice the PATH");
        for (int path = 1; path <= 999; path += path < 60 || path > 990 ? 1 : 13) {
            int asked = path;
            row("wall " + path, walls(path), (h, i) -> h.wall(asked, i));
        }
    }

    /** All a: with it stand 2 (a - 2 path) (b - 2 path) = a b. */
    static List<Integer> walls(int path) {
        List<Integer> as = new ArrayList<>();
        for (long a = 2L * path + 1; a <= 8L * path; a++) {
            long inside = a - 2L * path;
            // b (2 inside - a) is 4 path inside
            long times = 2 * inside - a;
            if (times > 0 && 4 * path * inside % times == 0) {
                long b = 4 * path * inside / times;
                if (b >= a && b > 2L * path) {
                    as.add((int) a);
                }
            }
        }
        return as;
    }

    static void flatBad() {
        sentence("28: FLAT for k (3 .. 99): how many (-1), the i-th n (0 ..). BAD");
        outside("flat of k", 3, 99, (h, x) -> h.flat(x, 0));
        outside("flat of k, how many", 3, 99, (h, x) -> h.flat(x, -1));
        below("flat of i", -1, (h, x) -> h.flat(4, x));
        sentence("28: NONE");
        refused("flat", 24, h -> h.flat(4, 1));
        refused("flat behind the last", NONE, h -> h.flat(4, 2));
        refused("flat far behind", NONE, h -> h.flat(4, MOST));
        sentence("28: BAD ahead of NONE");
        outside("flat of k, far behind", 3, 99, (h, x) -> h.flat(x, MOST));
    }

    static void flatAll() {
        sentence("28, Terms: n from 1 to 3000 for which HEAP of k (n-th) is a square");
        int last = 0;
        for (int k = 3; k <= 99; k++) {
            List<Integer> ns = new ArrayList<>();
            long heap = 0;
            for (long n = 1; n <= 3000; n++) {
                heap += n + (k - 2) * (n * (n - 1) / 2);
                if (isSquare(heap)) {
                    ns.add((int) n);
                }
            }
            last = Math.max(last, ns.get(ns.size() - 1));
            int asked = k;
            row("flat " + k, ns, (h, i) -> h.flat(asked, i));
        }
        is("a great one is met", last > 1000 ? 1 : 0, 1);
    }

    // ---- 29 corners, 30 string

    static void cornersBad() {
        sentence("29: c up to h (1 .. 500): how many (-1), of the i-th (0 ..) a, as 1000 a and c. BAD");
        outside("corners of h", 1, 500, (h, x) -> h.corners(x, 0));
        outside("corners of h, how many", 1, 500, (h, x) -> h.corners(x, -1));
        refused("corners of h 0", BAD, h -> h.corners(0, -1));
        below("corners of i", -1, (h, x) -> h.corners(5, x));
        sentence("29: NONE");
        refused("corners of 1", 0, h -> h.corners(1, -1));
        refused("corners of 1", NONE, h -> h.corners(1, 0));
        refused("corners of 4", NONE, h -> h.corners(4, 0));
        refused("corners of 5", 3005, h -> h.corners(5, 0));
        refused("corners behind the last", NONE, h -> h.corners(5, 1));
        refused("corners, the last of all", 300_500, h -> h.corners(500, 385));
        refused("corners behind the last of all", NONE, h -> h.corners(500, 386));
        refused("corners far behind", NONE, h -> h.corners(500, MOST));
        sentence("29: BAD ahead of NONE");
        outside("corners of h, far behind", 1, 500, (h, x) -> h.corners(x, MOST));
    }

    static void cornersAll() {
        sentence("29, Terms: a, b, c above 0, a below b, by rising c, then a");
        List<Integer> all = new ArrayList<>();
        for (int c = 1; c <= 500; c++) {
            for (int a = 1; a < c; a++) {
                int b = (int) Math.round(Math.sqrt(c * c - a * a));
                if (a < b && a * a + b * b == c * c) {
                    all.add(1000 * a + c);
                }
            }
            int h = c;
            is("corners " + h, asking(1).corners(h, -1), all.size());
            is("corners " + h + " the last", asking(1).corners(h, all.size() - 1), all.isEmpty() ? 0 : all.get(all.size() - 1));
            is("corners " + h + " behind the last", asking(1).corners(h, all.size()), NONE);
        }
        row("corners 500", all, (h, i) -> h.corners(500, i));
        row("corners 25", all.subList(0, 8), (h, i) -> h.corners(25, i));
    }

    static void string() {
        sentence("30: How many RIGHT CORNERS have a STRING (1 .. 100000). BAD");
        outside("string", 1, 100_000, (h, x) -> h.string(x));
        refused("string 1", 0, h -> h.string(1));
        refused("string 100000", 2, h -> h.string(100_000));
        int[] due = new int[100_001];
        for (int m = 2; 2 * m * (m + 1) <= 100_000; m++) {
            for (int n = 1; n < m; n++) {
                if ((m - n) % 2 == 1 && BigInteger.valueOf(m).gcd(BigInteger.valueOf(n)).equals(BigInteger.ONE)) {
                    for (int s = 2 * m * (m + n); s <= 100_000; s += 2 * m * (m + n)) {
                        due[s]++;
                    }
                }
            }
        }
        for (int s = 1; s <= 3000; s++) {
            is("string " + s, asking(1).string(s), due[s]);
        }
        for (int s = 99_960; s <= 100_000; s++) {
            is("string " + s, asking(1).string(s), due[s]);
        }
        for (int s : new int[] {12_600, 27_720, 46_340, 46_341, 46_342, 55_440, 65_536, 65_520, 92_400, 92_820, 98_280}) {
            is("string " + s, asking(1).string(s), due[s]);
        }
    }

    // ---- 31 claims

    static void claim(String text, int due) {
        Heaps h = new Heaps();
        h.put(3, 85);
        type(h, text);
        is("claims '" + text + "'", h.claims(), due);
        is("the tape is empty behind '" + text + "'", h.type('1', 1), 1);
        holds(h, "places stay", 3, "85");
    }

    static void claimsTape() {
        sentence("31: THE TAPE, which is empty then (whatever is answered)");
        claim("36=s6", NONE);
        claim("36=s7", 0);
        claim("36=x7", -23);
        claim("", -20);
        gives("claims of the tape 12", -22, TAPE, h -> h.claims());
        gives("claims that are not so", 0, TAPE, h -> {
            type(h, "=s3");
            return h.claims();
        });
        gives("claims that are so", NONE, TAPE, h -> {
            type(h, "=o3");
            return h.claims();
        });
        Heaps h = new Heaps();
        type(h, "36=s6");
        is("first", h.claims(), NONE);
        is("then", h.claims(), -20);
        is("a number then", h.number(0), -20);
    }

    static void claimsCount() {
        sentence("31, Terms: 1 to 8 with , between");
        claim("", -20);
        claim("0=s0", NONE);
        StringBuilder all = new StringBuilder("0=s0");
        for (int n = 2; n <= 8; n++) {
            all.append(",0=s0");
            claim(all.toString(), NONE);
            claim(all + " ", NONE);
            claim(all + ",", n < 8 ? -20 - all.length() - 1 : -20 - all.length());
        }
        claim(all + ",0=s0", -20 - all.length());
        claim(all + " ,0=s0", -20 - all.length() - 1);
        claim(all + " 0=s0", -20 - all.length() - 1);
        claim(",0=s0", -20);
        claim("0=s0,,0=s0", -25);
        claim("0=s0;0=s0", -24);
        claim("0=s0 0=s0", -25);
        claim("0=s00=s0", -25);
    }

    static void claimsFirstNotSo() {
        sentence("31: the first that is not so (0 ..); NONE: all are so");
        for (int first = 0; first < 8; first++) {
            StringBuilder all = new StringBuilder();
            for (int i = 0; i < 8; i++) {
                all.append(i == 0 ? "" : ",").append(i < first ? "4=s2" : i == first || i % 2 == 0 ? "5=s2" : "4=s2");
            }
            claim(all.toString(), first);
            claim(all.substring(0, 5 * first + 4), first);
        }
        claim("4=s2,4=s2,4=s2,4=s2,4=s2,4=s2,4=s2,4=s2", NONE);
    }

    static void claimsFaultAheadOfNotSo() {
        sentence("31: A FAULT, wherever it stands, ahead of what is not so");
        claim("5=s2,4=s", -28);
        claim("5=s2,", -25);
        claim("5=s2,4=c2:1", -28);
        claim("5=s2,4=s2x", -29);
        claim("5=s2,4=s1000000000", -28);
        claim("5=s2,5=s2,5=s2,5=s2,5=s2,5=s2,5=s2,5=s2,5=s2", -59);
    }

    static void claimsFigures() {
        sentence("31, Terms: each number in them of 18 figures at most, noughts ahead, too; of a number that has more its first byte");
        claim("000000000000000004=s2", NONE);
        claim("0000000000000000004=s2", -20);
        claim(" 0000000000000000004=s2", -21);
        claim("4=s000000000000000002", NONE);
        claim("4=s0000000000000000002", -23);
        claim("4=s  0000000000000000002", -25);
        claim("4=c000000000000000004:2", NONE);
        claim("4=c0000000000000000004:2", -23);
        claim("4=h 0000000000000000004:2", -24);
        claim("4=c4:000000000000000002", NONE);
        claim("4=c4:0000000000000000002", -25);
        claim("4=s2,0000000000000000004=s2", -25);
        claim("999999999999999999=s1", 0);
        claim("1000000000000000000=s1", -20);
        claim("9223372036854775808=s1", -20);
        claim("18446744073709551620=s2", -20);
        claim("4=s18446744073709551618", -23);
        claim("4=s4294967298", -23);
        claim("4=c4294967300:2", -23);
        claim("4=c18446744073709551620:2", -23);
        claim("000000000000000000=s000000000000000000", NONE);
        claim("0000000000000000000", -20);
        claim("0000000000000000000x", -20);
    }

    static void claimsLetters() {
        sentence("31, Terms: a SHAPE's letter s t o (in this order), or c or h");
        claim("9=s3", NONE);
        claim("6=t3", NONE);
        claim("12=o3", NONE);
        claim("12=c5:3", NONE);
        claim("18=h5:3", NONE);
        for (char letter : new char[] {'s', 't', 'o'}) {
            for (int v = 0; v < 20; v++) {
                int due = letter == 's' ? 9 : letter == 't' ? 6 : 12;
                claim(v + "=" + letter + "3", v == due ? NONE : 0);
            }
        }
        for (int v = 0; v < 20; v++) {
            claim(v + "=c5:3", v == 12 ? NONE : 0);
            claim(v + "=h5:3", v == 18 ? NONE : 0);
        }
        for (char b = 33; b <= 126; b++) {
            if ("stoch".indexOf(b) < 0) {
                claim("9=" + b + "3", -22);
            }
        }
        claim("9=ss3", -23);
        claim("9=sc3", -23);
        claim("9= s3", NONE);
    }

    static void claimsCorners() {
        sentence("31, Terms: c or h, a number k (3 .. 99) and : behind it; of a number that may not be its first byte");
        for (char letter : new char[] {'c', 'h'}) {
            claim("1=" + letter + "3:1", NONE);
            claim("1=" + letter + "99:1", NONE);
            claim("1=" + letter + "003:1", NONE);
            claim("1=" + letter + "2:1", -23);
            claim("1=" + letter + "100:1", -23);
            claim("1=" + letter + "0:1", -23);
            claim("1=" + letter + "1:1", -23);
            claim("1=" + letter + "  100:1", -25);
            claim("1=" + letter + "002:1", -23);
            claim("1=" + letter + "2", -23);
            claim("1=" + letter + "100x", -23);
            claim("1=" + letter + ":1", -23);
            claim("1=" + letter + "1", -23);
            claim("1=" + letter + "3", -24);
            claim("1=" + letter + "33", -25);
            claim("1=" + letter + "3 3:1", -25);
            claim("1=" + letter + "3;1", -24);
            claim("1=" + letter + "3=1", -24);
            claim("1=" + letter + "3,1", -24);
            claim("1=" + letter + "3::1", -25);
            claim("1=" + letter + "3:", -25);
            claim("1=" + letter + "3: ", -26);
            claim("1=" + letter + " 3 : 1 ", NONE);
        }
        claim("1=s1:1", -24);
        claim("1=t3:1", -24);
        claim("1=o3:1", -24);
        claim("99=c99:2", NONE);
        claim("3=c3:2", NONE);
        claim("4=h3:2", NONE);
        claim("100=h99:2", NONE);
    }

    static void claimsNumbers() {
        sentence("31, Terms: then a number n (0 .. 999999999); of a number that may not be its first byte");
        claim("0=s0", NONE);
        claim("0=t0", NONE);
        claim("0=o0", NONE);
        claim("0=c7:0", NONE);
        claim("0=h7:0", NONE);
        claim("1=s0", 0);
        claim("999999998000000001=s999999999", NONE);
        claim("999999998000000000=s999999999", 0);
        claim("499999999500000000=t999999999", NONE);
        claim("999999999000000000=o999999999", NONE);
        claim("499999999500000000=c3:999999999", NONE);
        claim("999999998000000001=c4:999999999", NONE);
        claim("0=s1000000000", -23);
        claim("0=t1000000000", -23);
        claim("0=o01000000000", -23);
        claim("0=c3:1000000000", -25);
        claim("0=h99: 1000000000", -27);
        claim("0=s0999999999", 0);
        claim("0=s999999999999999999", -23);
    }

    static void claimsWrap() {
        sentence("31: what is more than a long is not so");
        claim("767225632729289443=h92:999999981", 0);
        claim("88093169659729760=h94:999999936", 0);
        claim("945141916802746180=h66:999999927", 0);
        claim("999999914518795093=c99:883916870", 0);
        claim("999999828778858799=c99:883916869", 0);
        claim("999999743038922602=c99:883916868", 0);
        claim("999999999999999999=h99:999999999", 0);
        claim("0=h99:999999999", 0);
        claim("166666665000=h3:9999", NONE);
        claim("166666666166666667000000=h3:999999", -20);
    }

    static void claimsBlanks() {
        sentence("31, Terms: blanks do not count, but end a number in CLAIMS");
        claim(" 36 = s 6 , 36 = t 8 ", NONE);
        claim("  36  =  c  5  :  5  ", 0);
        claim("  35  =  c  5  :  5  ", NONE);
        claim("3 6=s6", -22);
        claim("36=s 6 0", -27);
        claim("36=c5 0:5", -26);
        claim("36=c 5 :5 5", -30);
        claim("36 s6", -23);
        claim("36=s6" + " ".repeat(95), NONE);
        claim(" ".repeat(95) + "36=s6", NONE);
    }

    static void claimsFirstByte() {
        sentence("31, Terms: FAULTS: the first byte that can't stand there");
        for (char b = 33; b <= 126; b++) {
            boolean figure = b >= '0' && b <= '9';
            if (!figure) {
                claim(b + "36=s6", -20);
                claim("36=s" + b + "6", -24);
                claim("36=c5:" + b + "6", -26);
            }
            if (!figure && b != '=') {
                claim("36" + b + "=s6", -22);
            }
            if (!figure && b != ':') {
                claim("36=c5" + b + "6", -25);
            }
            if (!figure && b != ',') {
                claim("36=s6" + b, -25);
                claim("36=c5:6" + b + "1=s1", -27);
            }
        }
        claim("36==s6", -23);
        claim("=s6", -20);
        claim("s6=36", -20);
        claim("-1=s1", -20);
    }

    static void claimsEnd() {
        sentence("31, Terms: FAULTS: the end: how many bytes there are");
        for (String text : new String[] {"", "36", "36=", "36=s", "36=c", "36=c5", "36=c5:", "36=s6,", "36=s6,1", "36=s6,1=", "36=s6,1=h"}) {
            for (int blanks = 0; blanks + text.length() <= 100; blanks++) {
                claim(text + " ".repeat(blanks), -20 - text.length() - blanks);
            }
        }
        claim(" ".repeat(100), -120);
        claim(" ".repeat(99) + "x", -119);
        claim("36=s6" + " ".repeat(94) + ",", -120);
        claim("36=s6" + " ".repeat(94) + "x", -119);
    }

    // ---- 32 image, 33 restore

    static void restoreNone() {
        sentence("33: NONE: there is none");
        Heaps h = new Heaps();
        h.put(0, 5);
        h.shape(7, 3, 9);
        is("restore", h.restore(), NONE);
        holds(h, "restore changes nothing", 0, "5");
        is("restore changes nothing", h.told(7), 5);
        is("restore again", h.restore(), NONE);
        is("image", h.image(), 1);
        is("restore", h.restore(), 1);
    }

    static void imageOfEachPlace() {
        sentence("32, 33: PLACES are as they were then: 1");
        for (int place = 0; place < 8; place++) {
            for (int kind = -2; kind < 5; kind++) {
                Heaps h = new Heaps();
                hold(h, place, kind, 9, 40);
                is("image", h.image(), 1);
                is("image changes nothing", h.told(place), kind + 2);
                hold(h, place, kind < 0 ? 3 : -1, 8, 41);
                is("restore", h.restore(), 1);
                for (int other = 0; other < 8; other++) {
                    is("told " + other, h.told(other), other == place ? kind + 2 : 0);
                }
                is("what it holds", third(h, place), thirdOf(kind, 9, 40));
                hold(h, place, kind < 0 ? -1 : 4, 7, 42);
                is("restore again", h.restore(), 1);
                is("what it holds", third(h, place), thirdOf(kind, 9, 40));
            }
        }
    }

    /** Nothing (-2), a number (-1) or a shape comes to a place. */
    static void hold(Heaps h, int place, int kind, int k, int v) {
        if (kind == -2) {
            h.empty(place);
        } else if (kind == -1) {
            h.put(place, v);
        } else {
            h.shape(place, kind, kind < 3 ? 0 : k);
        }
    }

    static String third(Heaps h, int place) {
        if (h.told(place) < 2) {
            return text(h, place);
        }
        int by = place == 0 ? 1 : 0;
        h.put(by, 3);
        h.nth(place, by, by);
        String third = text(h, by);
        h.empty(by);
        return third;
    }

    static String thirdOf(int kind, int k, int v) {
        return kind == -2 ? "told 0" : kind == -1 ? "" + v : term(kind, k, BigInteger.valueOf(3)).toString();
    }

    static void imageOfLongest() {
        sentence("32, 33: whole NUMBERS are kept");
        Heaps h = furnished();
        h.image();
        String all = all(h);
        h = furnished();
        h.image();
        for (int place = 0; place < 8; place++) {
            h.put(place, 1);
        }
        h.restore();
        is("all", all(h), all);
        h = furnished();
        h.image();
        h.put(LONGEST, 3);
        h.reckon(2, SOME, SEVEN, SOME);
        h.reckon(0, SEVEN, SEVEN, SEVEN);
        h.root(SEVEN, NOUGHT);
        h.restore();
        is("all", all(h), all);
    }

    static void imageLater() {
        sentence("32: a later IMAGE in place of the one before");
        Heaps h = new Heaps();
        h.put(0, 1);
        h.image();
        h.put(0, 2);
        h.put(1, 3);
        h.image();
        h.put(0, 4);
        h.empty(1);
        is("restore", h.restore(), 1);
        holds(h, "the later", 0, "2");
        holds(h, "the later", 1, "3");
        h.empty(0);
        h.empty(1);
        h.image();
        h.put(0, 7);
        is("restore", h.restore(), 1);
        holds(h, "nothing", 0, "told 0");
        holds(h, "nothing", 1, "told 0");
    }

    static void imageOfPlacesAlone() {
        sentence("33: PLACES alone: the tape and the sheets stay");
        Heaps h = new Heaps();
        type(h, "12");
        h.sheet(0, 0, 2);
        h.item(0, 0, 0, 5);
        h.sheet(2, 0, 2);
        h.image();
        type(h, "3");
        h.item(0, 0, 0, 6);
        h.sheet(1, 1, 1);
        h.drop(2);
        is("restore", h.restore(), 1);
        is("the tape", h.number(0), 3);
        holds(h, "the tape", 0, "123");
        is("a sheet", h.heap(0, 0, 0, 2, 1), 1);
        holds(h, "a sheet", 1, "6");
        is("a new sheet", h.drop(1), 1);
        is("a dropped one", h.drop(2), NULL);
        sentence("32, 33: nothing else changes");
        gives("image", 1, IMAGE, g -> g.image());
        gives("restore", 1, 255, g -> g.restore());
        refused("image", 1, g -> g.restore(), g -> {
            g.restore();
            return g.image();
        });
    }

    public static void main(String[] args) {
        twoBad();
        twoAll();
        threeBad();
        threeAll();
        fourBad();
        fourAll();
        fewest();
        wallBad();
        wallAll();
        flatBad();
        flatAll();
        cornersBad();
        cornersAll();
        string();
        claimsTape();
        claimsCount();
        claimsFirstNotSo();
        claimsFaultAheadOfNotSo();
        claimsFigures();
        claimsLetters();
        claimsCorners();
        claimsNumbers();
        claimsWrap();
        claimsBlanks();
        claimsFirstByte();
        claimsEnd();
        restoreNone();
        imageOfEachPlace();
        imageOfLongest();
        imageLater();
        imageOfPlacesAlone();
        end("WallsBoundaryTest");
    }
}
