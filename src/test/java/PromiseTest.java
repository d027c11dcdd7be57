import java.math.BigInteger;
import java.util.Random;

/** For each promise of the document: ordinary calls, the edges it names, and one call for each refusal. */
public class PromiseTest extends Boundaries {
    static Heaps h;

    static void fresh() {
        h = new Heaps();
    }

    /** A new object, unless this one may still be asked so many times; for calls that need nothing of before. */
    static void fresh(int times) {
        h = h.left() < times ? new Heaps() : h;
    }

    static void each(String name, int due, int... got) {
        for (int i = 0; i < got.length; i++) {
            is(name + " [" + i + "]", got[i], due);
        }
    }

    static void type(String text) {
        type(h, text);
    }

    static int read(String text, int place) {
        return read(h, text, place);
    }

    static int claims(String text) {
        fresh(20);
        type(text);
        return h.claims();
    }

    static String text(int place) {
        return text(h, place);
    }

    static void holds(String call, int place, String due) {
        holds(h, call, place, due);
    }

    static void big(int place, String figures, int by) {
        big(h, place, figures, by);
    }

    static void constants() {
        is("BAD", OrangeHeaps.BAD, -1);
        is("NOT", OrangeHeaps.NOT, -2);
        is("FULL", OrangeHeaps.FULL, -3);
        is("NONE", OrangeHeaps.NONE, -4);
        is("NULL", OrangeHeaps.NULL, -11);
        is("CAST", OrangeHeaps.CAST, -12);
        is("INDEX", OrangeHeaps.INDEX, -13);
        is("SIZE", OrangeHeaps.SIZE, -14);
        is("ZERO", OrangeHeaps.ZERO, -15);
    }

    static void promise1() {
        fresh();
        for (int i = 0; i < 8; i++) {
            is("1 told", h.told(i), 0);
            is("1 figures", h.figures(i), NULL);
        }
        for (int i = 0; i < 4; i++) {
            is("1 drop", h.drop(i), NULL);
        }
        is("1 restore", h.restore(), NONE);
        is("1 number of an empty tape", h.number(0), -20);
        is("1 type", h.type('1', 1), 1);
        Heaps other = new Heaps();
        h.put(0, 5);
        is("1 objects share nothing", other.told(0), 0);
    }

    static void promise2() {
        fresh();
        is("2 put 0", h.put(0, 0), 1);
        holds("2 put 0", 0, "0");
        is("2 put 9", h.put(7, 9), 1);
        is("2 put 10", h.put(7, 10), 2);
        is("2 put 999999999", h.put(7, 999999999L), 9);
        is("2 put 10^9", h.put(7, 1000000000L), 10);
        holds("2 put 10^9", 7, "1000000000");
        is("2 put most", h.put(3, Long.MAX_VALUE), 19);
        holds("2 put most", 3, "9223372036854775807");
        h.shape(3, 4, 5);
        is("2 put over a shape", h.put(3, 12), 2);
        holds("2 put over a shape", 3, "12");
        each("2 BAD", BAD, h.put(8, 1), h.put(-1, 1), h.put(3, -1), h.put(3, Long.MIN_VALUE), h.put(LEAST, 1), h.put(MOST, 1));
        holds("2 BAD changes nothing", 3, "12");
    }

    static void promise3() {
        fresh();
        for (int kind = 0; kind < 5; kind++) {
            is("3 shape", h.shape(kind, kind, kind < 3 ? 0 : 3), 1);
            is("3 told", h.told(kind), 2 + kind);
        }
        is("3 99", h.shape(0, 3, 99), 1);
        is("3 99", h.shape(1, 4, 99), 1);
        each("3 BAD", BAD, h.shape(8, 0, 0), h.shape(-1, 0, 0), h.shape(5, 5, 3), h.shape(5, -1, 0), h.shape(5, 0, 3),
                h.shape(5, 1, 4), h.shape(5, 2, 1), h.shape(5, 2, -1), h.shape(5, 3, 2), h.shape(5, 3, 100), h.shape(5, 4, 2),
                h.shape(5, 4, 100), h.shape(5, 3, 0), h.shape(5, 4, 0));
        is("3 BAD changes nothing", h.told(5), 0);
        h.put(5, 1);
        is("3 over a number", h.shape(5, 2, 0), 1);
        is("3 over a number", h.told(5), 4);
    }

    static void promise4() {
        fresh();
        is("4 nothing", h.empty(0), 0);
        h.put(0, 7);
        is("4 number", h.empty(0), 1);
        is("4 then", h.told(0), 0);
        for (int kind = 0; kind < 5; kind++) {
            h.shape(1, kind, kind < 3 ? 0 : 9);
            is("4 shape", h.empty(1), 2 + kind);
            is("4 then", h.told(1), 0);
        }
        each("4 BAD", BAD, h.empty(8), h.empty(-1), h.empty(LEAST), h.empty(MOST));
    }

    static void promise5() {
        fresh();
        h.put(1, 0);
        h.shape(2, 0, 0);
        h.shape(3, 1, 0);
        h.shape(4, 2, 0);
        h.shape(5, 3, 3);
        h.shape(6, 4, 3);
        for (int i = 0; i < 7; i++) {
            is("5 told", h.told(i), i);
        }
        each("5 BAD", BAD, h.told(8), h.told(-1), h.told(LEAST), h.told(MOST));
    }

    static void promise6() {
        fresh();
        is("6 one", h.type('1', 1), 1);
        is("6 three", h.type(0x323334L, 3), 4);
        is("6 higher bytes do not count", h.type(0x7F00000000000035L, 1), 5);
        is("6 eight", h.type(0x3637383930313233L, 8), 13);
        h.number(0);
        holds("6 in order", 0, "1234567890123");
        each("6 BAD n", BAD, h.type('1', 0), h.type('1', -1), h.type(0x3131313131313131L, 9), h.type('1', LEAST), h.type('1', MOST));
        each("6 BAD byte", BAD, h.type(31, 1), h.type(127, 1), h.type(0, 1), h.type(255, 1), h.type(128, 1), h.type(0x3100L, 2),
                h.type('1', 2), h.type(0x1F31L, 2), h.type(-1L, 8));
        is("6 edges", h.type(32, 1), 1);
        is("6 edges", h.type(126, 1), 2);
        is("6 negative w", h.type(0xFFFFFFFFFFFFFF20L, 1), 3);
        is("6 nothing came of BAD", h.number(0), -21);
        for (int i = 1; i <= 12; i++) {
            is("6 to 96", h.type(0x3131313131313131L, 8), 8 * i);
        }
        is("6 FULL", h.type(0x3131313131L, 5), FULL);
        is("6 BAD ahead of FULL", h.type(0x3131313101L, 5), BAD);
        is("6 FULL changed nothing", h.type(0x31313131L, 4), 100);
        is("6 FULL", h.type('1', 1), FULL);
        is("6 FULL", h.type(0x3131313131313131L, 8), FULL);
        is("6 all hundred are read", h.number(0), -100);
    }

    static void promise7() {
        fresh();
        is("7", read("12345678901234567890", 0), 20);
        holds("7", 0, "12345678901234567890");
        is("7 tape is empty", h.type('7', 1), 1);
        each("7 BAD", BAD, h.number(8), h.number(-1), h.number(LEAST));
        is("7 BAD: tape stays", h.type('8', 1), 2);
        is("7", h.number(1), 2);
        holds("7", 1, "78");
        is("7 blanks", read(" 1 2  3 ", 1), 3);
        holds("7 blanks", 1, "123");
        is("7 noughts ahead", read("0007", 2), 1);
        holds("7 noughts ahead", 2, "7");
        is("7 noughts", read("000", 2), 1);
        holds("7 noughts", 2, "0");
        is("7 80", read(nines(80), 3), 80);
        holds("7 80", 3, nines(80));
        is("7 81", read(nines(81), 3), -100);
        is("7 81 noughts", read("0".repeat(81), 3), -100);
        is("7 81 behind blanks", read("  " + nines(80) + " 9", 3), -103);
        is("7 80 and blanks", read(" " + nines(40) + "   " + nines(40) + " ", 3), 80);
        is("7 80 and a letter", read(nines(80) + "x", 3), -100);
        is("7 letter", read("12a4", 3), -22);
        is("7 letter behind blanks", read("  a", 3), -22);
        is("7 minus", read("-1", 3), -20);
        is("7 comma", read("1,2", 3), -21);
        is("7 first letter tells", read("1x" + nines(90), 3), -21);
        is("7 81st ahead of a letter", read(nines(81) + "x", 3), -100);
        is("7 end", h.number(3), -20);
        is("7 end behind blanks", read("   ", 3), -23);
        is("7 tape is empty behind a fault", h.type('1', 1), 1);
        h.claims();
        holds("7 a fault changes nothing", 3, nines(80));
        h.shape(4, 0, 0);
        is("7 over a shape", read("5", 4), 1);
        holds("7 over a shape", 4, "5");
    }

    static void promise8() {
        fresh();
        h.put(0, 0);
        h.put(1, 999999999L);
        h.put(2, 1000000000L);
        big(3, nines(216), 7);
        h.shape(4, 0, 0);
        is("8", h.figures(0), 1);
        is("8", h.figures(1), 9);
        is("8", h.figures(2), 10);
        is("8", h.figures(3), 216);
        each("8 BAD", BAD, h.figures(8), h.figures(-1), h.figures(MOST));
        is("8 NULL", h.figures(5), NULL);
        is("8 CAST", h.figures(4), CAST);
    }

    static void promise9() {
        fresh();
        read("12345678901234567890", 0);
        is("9", h.nine(0, 0), 234567890);
        is("9", h.nine(0, 1), 345678901);
        is("9", h.nine(0, 2), 12);
        is("9", h.nine(0, 3), 0);
        is("9", h.nine(0, 23), 0);
        big(1, "7" + "0".repeat(206) + "000000005", 7);
        is("9 last", h.nine(1, 23), 700000000);
        is("9 first", h.nine(1, 0), 5);
        is("9 between", h.nine(1, 11), 0);
        h.put(1, 3);
        is("9 nothing of the last stays", h.nine(1, 23), 0);
        h.shape(4, 0, 0);
        each("9 BAD", BAD, h.nine(8, 0), h.nine(-1, 0), h.nine(0, 24), h.nine(0, -1), h.nine(5, 24), h.nine(4, -1), h.nine(0, MOST),
                h.nine(0, LEAST));
        is("9 NULL", h.nine(5, 0), NULL);
        is("9 CAST", h.nine(4, 0), CAST);
    }

    static void promise10() {
        fresh();
        h.put(0, 100);
        h.put(1, 7);
        is("10 +", h.reckon(0, 0, 1, 2), 3);
        holds("10 +", 2, "107");
        is("10 -", h.reckon(1, 0, 1, 2), 2);
        holds("10 -", 2, "93");
        is("10 *", h.reckon(2, 0, 1, 2), 3);
        holds("10 *", 2, "700");
        is("10 /", h.reckon(3, 0, 1, 2), 2);
        holds("10 /", 2, "14");
        is("10 %", h.reckon(4, 0, 1, 2), 1);
        holds("10 %", 2, "2");
        is("10 - to 0", h.reckon(1, 0, 0, 2), 1);
        holds("10 - to 0", 2, "0");
        is("10 / to 0", h.reckon(3, 1, 0, 2), 1);
        holds("10 / to 0", 2, "0");
        is("10 % of less", h.reckon(4, 1, 0, 2), 1);
        holds("10 % of less", 2, "7");
        each("10 BAD", BAD, h.reckon(5, 0, 1, 2), h.reckon(-1, 0, 1, 2), h.reckon(0, 8, 1, 2), h.reckon(0, 0, 8, 2),
                h.reckon(0, 0, 1, 8), h.reckon(0, -1, 1, 2), h.reckon(0, 0, -1, 2), h.reckon(0, 0, 1, -1), h.reckon(5, 6, 6, 2));
        h.shape(5, 4, 9);
        h.put(3, 0);
        is("10 NULL", h.reckon(0, 6, 1, 2), NULL);
        is("10 NULL", h.reckon(0, 0, 6, 2), NULL);
        is("10 NULL of a first", h.reckon(0, 6, 5, 2), NULL);
        is("10 CAST", h.reckon(0, 5, 1, 2), CAST);
        is("10 CAST", h.reckon(0, 0, 5, 2), CAST);
        is("10 CAST of a first", h.reckon(0, 5, 6, 2), CAST);
        is("10 NOT", h.reckon(1, 1, 0, 2), NOT);
        is("10 NOT by 1", h.reckon(1, 3, 1, 2), NOT);
        is("10 ZERO", h.reckon(3, 0, 3, 2), ZERO);
        is("10 ZERO", h.reckon(4, 3, 3, 2), ZERO);
        holds("10 refusals change nothing", 2, "7");
        big(0, nines(216), 7);
        h.put(1, 1);
        is("10 FULL +", h.reckon(0, 0, 1, 2), FULL);
        h.put(1, 2);
        is("10 FULL *", h.reckon(2, 0, 1, 2), FULL);
        is("10 FULL *", h.reckon(2, 0, 0, 0), FULL);
        holds("10 FULL changes nothing", 2, "7");
        holds("10 FULL changes nothing", 0, nines(216));
        is("10 + to 216", h.reckon(0, 0, 3, 2), 216);
        h.put(1, 1);
        is("10 - from 216", h.reckon(1, 0, 1, 0), 216);
        holds("10 - from 216", 0, nines(215) + "8");
        is("10 to itself", h.reckon(3, 0, 0, 0), 1);
        holds("10 to itself", 0, "1");
        is("10 to a shape", h.reckon(0, 0, 0, 5), 1);
        holds("10 to a shape", 5, "2");
        big(0, "1" + "0".repeat(108), 7);
        is("10 10^108 twice", h.reckon(2, 0, 0, 1), FULL);
        big(0, nines(108), 7);
        is("10 9..9 twice", h.reckon(2, 0, 0, 1), 216);
        holds("10 9..9 twice", 1, nines(107) + "8" + "0".repeat(107) + "1");
        is("10 9..9 by it", h.reckon(3, 1, 0, 2), 108);
        holds("10 9..9 by it", 2, nines(108));
        is("10 rest of it", h.reckon(4, 1, 0, 2), 1);
        holds("10 rest of it", 2, "0");
        // borrows and carries through noughts, and a first guess of a quotient's limb that is too high
        big(0, "1" + "0".repeat(180), 7);
        big(1, "499999999" + "999999999999999999", 7);
        String a = "1" + "0".repeat(180);
        String b = "499999999999999999999999999";
        h.reckon(3, 0, 1, 2);
        holds("10 long /", 2, new BigInteger(a).divide(new BigInteger(b)).toString());
        h.reckon(4, 0, 1, 2);
        holds("10 long %", 2, new BigInteger(a).mod(new BigInteger(b)).toString());
        quotients();
    }

    /** Numbers whose limbs are noughts, nines and such: there the guesses at a quotient go wrong. */
    static void quotients() {
        Random random = new Random(10);
        for (int i = 0; i < 300; i++) {
            String a = limbs(random, 1 + random.nextInt(8));
            String b = limbs(random, 1 + random.nextInt(5));
            if (new BigInteger(b).signum() == 0) {
                continue;
            }
            fresh(60);
            read(a, 0);
            read(b, 1);
            BigInteger[] due = new BigInteger(a).divideAndRemainder(new BigInteger(b));
            is("10 / " + a + " " + b, h.reckon(3, 0, 1, 2), due[0].toString().length());
            holds("10 / " + a + " " + b, 2, due[0].toString());
            is("10 % " + a + " " + b, h.reckon(4, 0, 1, 2), due[1].toString().length());
            holds("10 % " + a + " " + b, 2, due[1].toString());
        }
    }

    static String limbs(Random random, int n) {
        String[] some = {"000000000", "999999999", "000000001", "500000000", "499999999", "999999998", "500000001"};
        StringBuilder all = new StringBuilder();
        for (int i = 0; i < n; i++) {
            all.append(random.nextInt(5) == 0 ? "" + (100000000 + random.nextInt(900000000)) : some[random.nextInt(some.length)]);
        }
        return all.toString();
    }

    static void promise11() {
        fresh();
        long[] squares = {0, 1, 4, 36, 144, 9_999_800_001L, 1_000_000_000_000_000_000L};
        long[] roots = {0, 1, 2, 6, 12, 99_999, 1_000_000_000};
        for (int i = 0; i < squares.length; i++) {
            h.put(0, squares[i]);
            is("11 square", h.root(0, 1), 1);
            holds("11 square", 1, "" + roots[i]);
            h.put(0, squares[i] + 2);
            is("11 no square", h.root(0, 1), 0);
            h.put(0, squares[i] - 1);
            if (i > 1) {
                is("11 one less", h.root(0, 1), 0);
                holds("11 one less", 1, "" + (roots[i] - 1));
            }
        }
        big(0, nines(216), 7);
        is("11 longest", h.root(0, 0), 0);
        holds("11 longest", 0, nines(108));
        big(0, nines(108), 7);
        h.reckon(2, 0, 0, 0);
        is("11 longest square", h.root(0, 1), 1);
        holds("11 longest square", 1, nines(108));
        h.shape(5, 0, 0);
        each("11 BAD", BAD, h.root(8, 0), h.root(0, 8), h.root(-1, 0), h.root(0, -1));
        is("11 NULL", h.root(6, 0), NULL);
        is("11 CAST", h.root(5, 1), CAST);
        holds("11 refusals change nothing", 1, nines(108));
    }

    static void promise12() {
        fresh();
        h.put(0, 5);
        h.put(1, 6);
        h.put(2, 1_000_000_005L);
        h.put(3, 2_000_000_004L);
        h.shape(5, 0, 0);
        is("12", h.order(1, 0), 1);
        is("12", h.order(0, 0), 0);
        is("12", h.order(0, 1), 2);
        is("12 longer", h.order(2, 1), 1);
        is("12 longer", h.order(1, 2), 2);
        is("12 highest first", h.order(3, 2), 1);
        is("12 highest first", h.order(2, 3), 2);
        h.put(4, 1_000_000_005L);
        is("12 like", h.order(4, 2), 0);
        each("12 BAD", BAD, h.order(8, 0), h.order(0, 8), h.order(-1, 0), h.order(0, -1));
        is("12 NULL", h.order(6, 0), NULL);
        is("12 NULL", h.order(0, 6), NULL);
        is("12 NULL first", h.order(6, 5), NULL);
        is("12 CAST", h.order(5, 0), CAST);
        is("12 CAST", h.order(0, 5), CAST);
        is("12 CAST first", h.order(5, 6), CAST);
    }

    static void nth(int kind, int k, long n, String due) {
        fresh(80);
        h.shape(0, kind, k);
        h.put(1, n);
        is("13 nth " + kind + " " + k + " " + n, h.nth(0, 1, 2), due.length());
        holds("13 nth " + kind + " " + k + " " + n, 2, due);
        is("14 which " + kind + " " + k + " " + due, h.which(0, 2, 3), 1);
        holds("14 which " + kind + " " + k + " " + due, 3, "" + n);
    }

    static void promises13And14() {
        fresh();
        for (int n = 0; n < 12; n++) {
            nth(0, 0, n, "" + n * n);
            nth(1, 0, n, "" + n * (n + 1) / 2);
            nth(2, 0, n, "" + n * (n + 1));
        }
        int[] five = {0, 1, 5, 12, 22, 35};
        int[] fiveHeap = {0, 1, 6, 18, 40, 75};
        int[] threeHeap = {0, 1, 4, 10, 20, 35};
        int[] fourHeap = {0, 1, 5, 14, 30, 55};
        int[] corners99 = {0, 1, 99, 294, 586};
        int[] heap99 = {0, 1, 100, 394, 980};
        for (int n = 0; n < five.length; n++) {
            fresh();
            nth(3, 5, n, "" + five[n]);
            nth(4, 5, n, "" + fiveHeap[n]);
            nth(3, 3, n, "" + n * (n + 1) / 2);
            nth(3, 4, n, "" + n * n);
            nth(4, 3, n, "" + threeHeap[n]);
            nth(4, 4, n, "" + fourHeap[n]);
            if (n < 5) {
                nth(3, 99, n, "" + corners99[n]);
                nth(4, 99, n, "" + heap99[n]);
            }
        }
        fresh();
        nth(4, 4, 24, "4900");
        nth(3, 99, 999_999_999, "48499999855500000096");
        nth(4, 3, 2_000_000_000_000L, "1333333333335333333333334000000000000");
    }

    static void promise13() {
        fresh();
        h.shape(0, 0, 0);
        h.put(1, 5);
        each("13 BAD", BAD, h.nth(8, 1, 2), h.nth(0, 8, 2), h.nth(0, 1, 8), h.nth(-1, 1, 2), h.nth(0, -1, 2), h.nth(0, 1, -1));
        is("13 NULL", h.nth(6, 1, 2), NULL);
        is("13 NULL", h.nth(0, 6, 2), NULL);
        is("13 CAST", h.nth(1, 1, 2), CAST);
        is("13 CAST", h.nth(0, 0, 2), CAST);
        is("13 CAST of the shape first", h.nth(1, 6, 2), CAST);
        is("13 NULL of the shape first", h.nth(6, 0, 2), NULL);
        is("13 nothing changed", h.told(2), 0);
        big(1, "1" + "0".repeat(108), 7);
        is("13 FULL", h.nth(0, 1, 2), FULL);
        big(1, nines(108), 7);
        is("13 longest", h.nth(0, 1, 2), 216);
        h.shape(0, 2, 0);
        is("13 longest oblong", h.nth(0, 1, 2), 216);
        holds("13 longest oblong", 2, nines(108) + "0".repeat(108));
        big(1, nines(216), 7);
        for (int kind = 0; kind < 5; kind++) {
            h.shape(0, kind, kind < 3 ? 0 : 50);
            is("13 FULL", h.nth(0, 1, 2), FULL);
        }
        big(1, "1" + "0".repeat(108), 7);
        h.shape(0, 1, 0);
        is("13 longest triangle", h.nth(0, 1, 2), 216);
        holds("13 longest triangle", 2, "5" + "0".repeat(107) + "5" + "0".repeat(107));
        is("14 longest triangle", h.which(0, 2, 3), 1);
        is("14 longest triangle", h.order(1, 3), 0);
        big(1, "14" + "0".repeat(107), 7);
        is("13 longest triangle", h.nth(0, 1, 2), 216);
        big(1, "15" + "0".repeat(107), 7);
        is("13 FULL triangle", h.nth(0, 1, 2), FULL);
        big(1, "1" + "0".repeat(72), 7);
        h.shape(0, 4, 8);
        is("13 heap of 217", h.nth(0, 1, 2), FULL);
        h.shape(0, 4, 7);
        is("13 heap of 216", h.nth(0, 1, 2), 216);
        h.put(1, 3);
        is("13 into the shape's place", h.nth(0, 1, 0), 2);
        holds("13 into the shape's place", 0, "26");
        h.shape(0, 1, 0);
        is("13 into the number's place", h.nth(0, 1, 1), 1);
        holds("13 into the number's place", 1, "6");
    }

    static void promise14() {
        fresh();
        int[][] shapes = {{0, 0}, {1, 0}, {2, 0}, {3, 3}, {3, 4}, {3, 5}, {3, 99}, {4, 3}, {4, 4}, {4, 6}, {4, 99}};
        int[][] members = {{0, 1, 4, 9, 16, 25, 36, 49}, {0, 1, 3, 6, 10, 15, 21, 28, 36, 45}, {0, 2, 6, 12, 20, 30, 42},
            {0, 1, 3, 6, 10, 15, 21, 28, 36, 45}, {0, 1, 4, 9, 16, 25, 36, 49}, {0, 1, 5, 12, 22, 35}, {0, 1}, {0, 1, 4, 10, 20, 35},
            {0, 1, 5, 14, 30}, {0, 1, 7, 22}, {0, 1}};
        for (int s = 0; s < shapes.length; s++) {
            fresh();
            h.shape(0, shapes[s][0], shapes[s][1]);
            for (int a = 0; a < 50; a++) {
                int due = -1;
                for (int n = 0; n < members[s].length; n++) {
                    due = members[s][n] == a ? n : due;
                }
                h.put(1, a);
                h.empty(2);
                is("14 " + shapes[s][0] + " " + shapes[s][1] + " " + a, h.which(0, 1, 2), due < 0 ? 0 : 1);
                holds("14 " + a, 2, due < 0 ? "told 0" : "" + due);
            }
        }
        fresh();
        h.shape(0, 1, 0);
        h.put(1, 36);
        each("14 BAD", BAD, h.which(8, 1, 2), h.which(0, 8, 2), h.which(0, 1, 8), h.which(-1, 1, 2), h.which(0, -1, 2), h.which(0, 1, -1));
        is("14 NULL", h.which(6, 1, 2), NULL);
        is("14 NULL", h.which(0, 6, 2), NULL);
        is("14 CAST", h.which(1, 1, 2), CAST);
        is("14 CAST", h.which(0, 0, 2), CAST);
        is("14 CAST of the shape first", h.which(1, 6, 2), CAST);
        is("14 into the shape's place", h.which(0, 1, 0), 1);
        holds("14 into the shape's place", 0, "8");
        h.shape(0, 4, 3);
        big(1, nines(216), 7);
        is("14 longest", h.which(0, 1, 2), 0);
        h.shape(0, 1, 0);
        is("14 longest", h.which(0, 1, 2), 0);
        big(1, nines(107), 7);
        h.nth(0, 1, 3);
        is("14 long", h.which(0, 3, 2), 1);
        is("14 long", h.order(1, 2), 0);
    }

    static void promises15And16() {
        fresh();
        String[] both = {"0", "1", "36", "1225", "41616", "1413721", "48024900"};
        int[] square = {0, 1, 6, 35, 204, 1189, 6930};
        int[] triangle = {0, 1, 8, 49, 288, 1681, 9800};
        for (int i = 0; i < both.length; i++) {
            is("15", h.both(i, 0), both[i].length());
            holds("15", 0, both[i]);
            is("16 square", h.side(i, 0, 1), ("" + square[i]).length());
            holds("16 square", 1, "" + square[i]);
            is("16 triangle", h.side(i, 1, 1), ("" + triangle[i]).length());
            holds("16 triangle", 1, "" + triangle[i]);
        }
        h.shape(5, 0, 0);
        h.shape(6, 1, 0);
        int last = 0;
        for (int i = 7; i <= 142; i += 45) {
            int figures = h.both(i, 0);
            is("15 " + i, figures, h.figures(0));
            h.side(i, 0, 1);
            h.nth(5, 1, 2);
            is("15, 16 square " + i, h.order(0, 2), 0);
            h.side(i, 1, 1);
            h.nth(6, 1, 2);
            is("15, 16 triangle " + i, h.order(0, 2), 0);
            last = figures;
        }
        is("15 last that fits", last, 216);
        is("15 FULL", h.both(143, 0), FULL);
        is("15 FULL", h.both(200, 0), FULL);
        is("15 FULL changes nothing", h.figures(0), 216);
        is("16 200", h.side(200, 0, 1), 153);
        is("16 200", h.side(200, 1, 1), 153);
        each("15 BAD", BAD, h.both(-1, 0), h.both(201, 0), h.both(1, 8), h.both(1, -1), h.both(200, 8), h.both(LEAST, 0), h.both(MOST, 0));
        each("16 BAD", BAD, h.side(-1, 0, 0), h.side(201, 0, 0), h.side(1, 2, 0), h.side(1, -1, 0), h.side(1, 0, 8), h.side(1, 0, -1),
                h.side(MOST, 0, 0));
        is("16 over a shape", h.side(2, 1, 5), 1);
        holds("16 over a shape", 5, "8");
    }

    static void promise17() {
        fresh();
        is("17 d 2", h.one(2, 1, 0, 1), 1);
        holds("17 d 2 x", 0, "3");
        holds("17 d 2 y", 1, "2");
        is("17 d 2, second", h.one(2, 2, 0, 1), 2);
        holds("17 d 2 x", 0, "17");
        holds("17 d 2 y", 1, "12");
        h.one(3, 1, 0, 1);
        holds("17 d 3 x", 0, "2");
        holds("17 d 3 y", 1, "1");
        h.one(3, 4, 0, 1);
        holds("17 d 3 x", 0, "97");
        holds("17 d 3 y", 1, "56");
        is("17 d 61", h.one(61, 1, 0, 1), 10);
        holds("17 d 61 x", 0, "1766319049");
        holds("17 d 61 y", 1, "226153980");
        is("17 d 9998", h.one(9998, 1, 0, 1), 4);
        holds("17 d 9998 x", 0, "9999");
        holds("17 d 9998 y", 1, "100");
        is("17 d 4729", h.one(4729, 1, 1, 0), leastOne(4729).length());
        BigInteger x = new BigInteger(text(1));
        BigInteger y = new BigInteger(text(0));
        is("17 is one more", x.multiply(x).subtract(y.multiply(y).multiply(BigInteger.valueOf(4729))).intValueExact(), 1);
        BigInteger first = new BigInteger(leastOne(61));
        BigInteger older = BigInteger.ONE;
        BigInteger now = first;
        for (int n = 1; n <= 24; n++) {
            int due = now.toString().length();
            is("17 d 61, " + n, h.one(61, n, 0, 1), due > 216 ? FULL : due);
            if (due <= 216) {
                holds("17 d 61, " + n, 0, now.toString());
            }
            BigInteger next = first.add(first).multiply(now).subtract(older);
            older = now;
            now = next;
        }
        is("17 99th", h.one(2, 99, 0, 1), 76);
        is("17 FULL", h.one(61, 99, 0, 1), FULL);
        is("17 FULL changes nothing", h.figures(0), 76);
        String longest = leastOne(9949);
        is("17 longest least", h.one(9949, 1, 0, 1), longest.length() > 216 ? FULL : longest.length());
        h.one(2, 1, 0, 1);
        each("17 BAD", BAD, h.one(1, 1, 0, 1), h.one(0, 1, 0, 1), h.one(-2, 1, 0, 1), h.one(4, 1, 0, 1), h.one(9801, 1, 0, 1),
                h.one(10000, 1, 0, 1), h.one(10001, 1, 0, 1), h.one(2, 0, 0, 1), h.one(2, 100, 0, 1), h.one(2, -1, 0, 1),
                h.one(2, 1, 8, 1), h.one(2, 1, 0, 8), h.one(2, 1, -1, 1), h.one(2, 1, 0, -1), h.one(2, 1, 3, 3), h.one(MOST, 1, 0, 1),
                h.one(LEAST, 1, 0, 1), h.one(61, 99, 3, 3));
        holds("17 BAD changes nothing", 0, "3");
        is("17 BAD changes nothing", h.told(3), 0);
    }

    /** The least x by the chakravala's plain cousin: convergents, each tried. */
    static String leastOne(int d) {
        BigInteger big = BigInteger.valueOf(d);
        int first = (int) Math.sqrt(d);
        int m = 0;
        int q = 1;
        int a = first;
        BigInteger p0 = BigInteger.ONE;
        BigInteger p1 = BigInteger.valueOf(a);
        BigInteger q0 = BigInteger.ZERO;
        BigInteger q1 = BigInteger.ONE;
        for (int i = 0; i < 10000; i++) {
            if (p1.multiply(p1).subtract(big.multiply(q1).multiply(q1)).equals(BigInteger.ONE)) {
                return p1.toString();
            }
            m = q * a - m;
            q = (d - m * m) / q;
            a = (first + m) / q;
            BigInteger p2 = p1.multiply(BigInteger.valueOf(a)).add(p0);
            BigInteger q2 = q1.multiply(BigInteger.valueOf(a)).add(q0);
            p0 = p1;
            q0 = q1;
            p1 = p2;
            q1 = q2;
        }
        return "0";
    }

    static void promise18() {
        fresh();
        int[] there = {2, 5, 10, 13, 17, 26, 29, 37, 41, 50, 53, 58, 61, 65, 73, 74, 82, 85, 89, 97};
        for (int d = 2; d < 100; d++) {
            int due = 0;
            for (int t : there) {
                due = t == d ? 1 : due;
            }
            int root = (int) Math.sqrt(d);
            is("18 " + d, h.less(d), root * root == d ? BAD : due);
        }
        is("18 9997", h.less(9997), 1);
        is("18 9802", h.less(9802), 1);
        is("18 9999", h.less(9999), 0);
        each("18 BAD", BAD, h.less(1), h.less(0), h.less(-1), h.less(10000), h.less(9801), h.less(4), h.less(LEAST), h.less(MOST));
    }

    static void promise19() {
        fresh();
        is("19 d 2", h.round(2, -1), 1);
        is("19 d 2", h.round(2, 0), 1);
        is("19 d 2", h.round(2, 1), 2);
        is("19 d 2", h.round(2, 9999), 2);
        int[] seven = {2, 1, 1, 1, 4, 1, 1, 1, 4};
        is("19 d 7", h.round(7, -1), 4);
        for (int i = 0; i < seven.length; i++) {
            is("19 d 7", h.round(7, i), seven[i]);
        }
        is("19 d 7", h.round(7, 9996), 4);
        is("19 d 7", h.round(7, 9999), 1);
        int[] ninetyFour = {9, 1, 2, 3, 1, 1, 5, 1, 8, 1, 5, 1, 1, 3, 2, 1, 18};
        is("19 d 94", h.round(94, -1), 16);
        for (int i = 0; i < ninetyFour.length; i++) {
            is("19 d 94", h.round(94, i), ninetyFour[i]);
        }
        is("19 d 9999", h.round(9999, -1), 2);
        is("19 d 9999", h.round(9999, 0), 99);
        is("19 d 9949", h.round(9949, -1), 217);
        each("19 BAD", BAD, h.round(1, 0), h.round(4, -1), h.round(10000, 0), h.round(10001, 0), h.round(0, 0), h.round(-7, 0), h.round(7, -2),
                h.round(7, 10000), h.round(7, LEAST), h.round(7, MOST), h.round(9, 0));
    }

    static void promise20() {
        fresh();
        int[] above = {2, 3, 5, 8, 37, 45, 82, 127};
        int[] below = {1, 1, 2, 3, 14, 17, 31, 48};
        for (int i = 0; i < above.length; i++) {
            is("20 d 7", h.near(7, i, 3, 2), ("" + above[i]).length());
            holds("20 d 7 above", 3, "" + above[i]);
            holds("20 d 7 below", 2, "" + below[i]);
        }
        is("20 d 2, 200", h.near(2, 200, 0, 1), 77);
        is("20 d 2, 200 below", h.figures(1), 77);
        is("20 d 9998, 199", h.near(9998, 199, 0, 1), 215);
        is("20 d 9998, 199 below", h.figures(1), 213);
        is("20 FULL by above alone", h.near(9998, 200, 0, 1), FULL);
        is("20 FULL", h.near(9999, 200, 0, 1), FULL);
        is("20 FULL changes nothing", h.figures(0), 215);
        is("20 FULL changes nothing", h.figures(1), 213);
        h.near(2, 1, 0, 1);
        each("20 BAD", BAD, h.near(1, 0, 0, 1), h.near(4, 0, 0, 1), h.near(10000, 0, 0, 1), h.near(2, -1, 0, 1), h.near(2, 201, 0, 1),
                h.near(2, 0, 8, 1), h.near(2, 0, 0, 8), h.near(2, 0, -1, 1), h.near(2, 0, 0, -1), h.near(2, 0, 6, 6),
                h.near(2, MOST, 0, 1), h.near(2, LEAST, 0, 1), h.near(9998, 200, 6, 6));
        holds("20 BAD changes nothing", 0, "3");
        is("20 BAD changes nothing", h.told(6), 0);
    }

    static void promise21() {
        fresh();
        is("21 how many", h.off(2, 1, -1), 6);
        int[] ys = {0, 2, 12, 70, 408, 2378};
        for (int i = 0; i < ys.length; i++) {
            is("21", h.off(2, 1, i), ys[i]);
        }
        is("21 NONE", h.off(2, 1, 6), NONE);
        is("21 less", h.off(2, -1, 0), 1);
        is("21 less", h.off(2, -1, 1), 5);
        is("21 none at all", h.off(3, -1, -1), 0);
        is("21 none at all", h.off(3, -1, 0), NONE);
        is("21 no off", h.off(2, 0, -1), 1);
        is("21 no off", h.off(2, 0, 0), 0);
        is("21 0 is a square", h.off(2, -98, 0), 7);
        is("21 0 is a square", h.off(11, -99, 0), 3);
        is("21 99", h.off(2, 99, -1) >= 0 ? 1 : 0, 1);
        is("21 no 9999th", h.off(9998, 99, 9999), NONE);
        is("21 last y", h.off(2499, 1, -1), 4);
        is("21 last y", h.off(2499, 1, 3), 9999);
        each("21 BAD", BAD, h.off(1, 1, 0), h.off(4, 1, 0), h.off(10000, 1, 0), h.off(2, 100, 0), h.off(2, -100, 0), h.off(2, 1, -2),
                h.off(2, 1, 10000), h.off(-2, 1, 0), h.off(2, LEAST, 0), h.off(2, MOST, 0), h.off(2, 1, MOST));
    }

    static void best(int above, int below, int most, int dueAbove, int dueBelow) {
        is("22 " + above + " " + below + " " + most + " above", h.best(above, below, most, 0), dueAbove);
        is("22 " + above + " " + below + " " + most + " below", h.best(above, below, most, 1), dueBelow);
    }

    static void promise22() {
        fresh();
        best(314159, 100000, 10, 22, 7);
        best(314159, 100000, 200, 355, 113);
        best(314159, 100000, 1, 3, 1);
        best(0, 5, 7, 0, 1);
        best(1, 2, 1, 0, 1);
        best(3, 2, 1, 1, 1);
        best(1, 2, 2, 1, 2);
        best(2, 4, 4, 1, 2);
        best(999999, 1, 999, 999999, 1);
        best(999999, 2, 1, 499999, 1);
        best(1, 999999, 999, 0, 1);
        best(999998, 999999, 999, 1, 1);
        best(1, 4, 3, 1, 3);
        best(3, 8, 3, 1, 3);
        best(5, 12, 6, 2, 5);
        best(1, 4, 2, 0, 1);
        each("22 BAD", BAD, h.best(-1, 1, 1, 0), h.best(1000000, 1, 1, 0), h.best(1, 0, 1, 0), h.best(1, 1000000, 1, 0), h.best(1, 1, 0, 0),
                h.best(1, 1, 1000, 0), h.best(1, 1, 1, 2), h.best(1, 1, 1, -1), h.best(1, -1, 1, 0), h.best(LEAST, LEAST, LEAST, LEAST));
    }

    static void promise23() {
        fresh();
        is("23 0", h.two(0, -1), 1);
        is("23 0", h.two(0, 0), 0);
        is("23 3", h.two(3, -1), 0);
        is("23 3", h.two(3, 0), NONE);
        is("23 2", h.two(2, 0), 1);
        is("23 25", h.two(25, -1), 2);
        is("23 25", h.two(25, 0), 0);
        is("23 25", h.two(25, 1), 3);
        is("23 25", h.two(25, 2), NONE);
        is("23 50", h.two(50, -1), 2);
        is("23 50", h.two(50, 1), 5);
        is("23 5525", h.two(5525, -1), 6);
        int[] as = {7, 14, 22, 25, 41, 50};
        for (int i = 0; i < as.length; i++) {
            is("23 5525", h.two(5525, i), as[i]);
        }
        is("23 10^9", h.two(1_000_000_000, -1), 5);
        is("23 10^9", h.two(1_000_000_000, 0), 1200);
        is("23 no bound of i", h.two(25, MOST), NONE);
        each("23 BAD", BAD, h.two(-1, 0), h.two(1_000_000_001, 0), h.two(25, -2), h.two(25, LEAST), h.two(LEAST, 0), h.two(MOST, 0));
    }

    static void promise24() {
        fresh();
        for (int n = 0; n <= 60; n++) {
            int a = h.three(n, 0);
            int b = h.three(n, 1);
            int c = h.three(n, 2);
            is("24 " + n, a * (a + 1) / 2 + b * (b + 1) / 2 + c * (c + 1) / 2, n);
            is("24 order " + n, 0 <= a && a <= b && b <= c ? 1 : 0, 1);
        }
        int[] five = {1, 1, 2};
        int[] most = {0, 0, 0};
        for (int i = 0; i < 3; i++) {
            is("24 5", h.three(5, i), five[i]);
            is("24 0", h.three(0, i), 0);
            most[i] = h.three(1_000_000, i);
        }
        is("24 10^6", most[0] * (most[0] + 1) / 2 + most[1] * (most[1] + 1) / 2 + most[2] * (most[2] + 1) / 2, 1_000_000);
        is("24 first as a row", h.three(36, 0), 0);
        is("24 first as a row", h.three(36, 1), 0);
        is("24 first as a row", h.three(36, 2), 8);
        each("24 BAD", BAD, h.three(-1, 0), h.three(1_000_001, 0), h.three(5, -1), h.three(5, 3), h.three(1_000_000_000, 0), h.three(MOST, 0),
                h.three(5, MOST));
    }

    static void promise25() {
        fresh();
        int[][] rows = {{0, 0, 0, 0, 0}, {1, 0, 0, 0, 1}, {2, 0, 0, 1, 1}, {3, 0, 1, 1, 1}, {4, 0, 0, 0, 2}, {48, 0, 4, 4, 4}, {7, 1, 1, 1, 2}, {23, 1, 2, 3, 3}, {28, 1, 1, 1, 5}, {30, 0, 1, 2, 5},
            {96, 0, 4, 4, 8}, {25, 0, 0, 0, 5}, {50, 0, 0, 1, 7}, {112, 2, 2, 2, 10}};
        for (int[] row : rows) {
            for (int i = 0; i < 4; i++) {
                is("25 " + row[0], h.four(row[0], i), row[i + 1]);
            }
        }
        is("25 10^6", h.four(1_000_000, 3), 1000);
        is("25 10^6", h.four(1_000_000, 2), 0);
        int[] due = {128, 128, 128, 640};
        for (int i = 0; i < 4; i++) {
            is("25 28 times 4^7", h.four(458752, i), due[i]);
        }
        each("25 BAD", BAD, h.four(-1, 0), h.four(1_000_001, 0), h.four(7, -1), h.four(7, 4), h.four(MOST, 0), h.four(LEAST, 0));
    }

    static void promise26() {
        fresh();
        int[] due = {0, 1, 2, 3, 1, 2, 3, 4, 2, 1, 2, 3, 3, 2, 3, 4, 1, 2, 2, 3, 2, 3, 3, 4, 3, 1, 2, 3, 4};
        for (int n = 0; n < due.length; n++) {
            is("26 " + n, h.fewest(n), due[n]);
        }
        is("26 10^9", h.fewest(1_000_000_000), 2);
        is("26 31622 31622", h.fewest(999950884), 1);
        is("26 999999999", h.fewest(999_999_999), 4);
        is("26 999999998", h.fewest(999_999_998), 3);
        is("26 7 times 4^13", h.fewest(7 << 26), 4);
        each("26 BAD", BAD, h.fewest(-1), h.fewest(1_000_000_001), h.fewest(LEAST), h.fewest(MOST));
    }

    static void promise27() {
        fresh();
        is("27 how many", h.wall(1, -1), 2);
        is("27", h.wall(1, 0), 5);
        is("27", h.wall(1, 1), 6);
        is("27 NONE", h.wall(1, 2), NONE);
        is("27 how many", h.wall(2, -1), 3);
        is("27", h.wall(2, 0), 9);
        is("27", h.wall(2, 1), 10);
        is("27", h.wall(2, 2), 12);
        is("27 NONE", h.wall(2, 3), NONE);
        is("27 999", h.wall(999, -1), 42);
        is("27 999", h.wall(999, 0), 3997);
        is("27 NONE far", h.wall(999, MOST), NONE);
        each("27 BAD", BAD, h.wall(0, 0), h.wall(1000, 0), h.wall(1, -2), h.wall(-1, 0), h.wall(1, LEAST), h.wall(MOST, 0));
    }

    static void promise28() {
        fresh();
        is("28 squares", h.flat(4, -1), 2);
        is("28 squares", h.flat(4, 0), 1);
        is("28 squares", h.flat(4, 1), 24);
        is("28 NONE", h.flat(4, 2), NONE);
        is("28 triangles", h.flat(3, -1), 3);
        is("28 triangles", h.flat(3, 1), 2);
        is("28 triangles", h.flat(3, 2), 48);
        is("28 99", h.flat(99, 0), 1);
        is("28 99", h.flat(99, 1), 2);
        is("28 NONE far", h.flat(3, MOST), NONE);
        each("28 BAD", BAD, h.flat(2, 0), h.flat(100, 0), h.flat(3, -2), h.flat(LEAST, 0), h.flat(3, LEAST));
    }

    static void promise29() {
        fresh();
        is("29 4", h.corners(4, -1), 0);
        is("29 4", h.corners(4, 0), NONE);
        is("29 5", h.corners(5, -1), 1);
        is("29 5", h.corners(5, 0), 3005);
        is("29 25", h.corners(25, -1), 8);
        int[] due = {3005, 6010, 5013, 9015, 8017, 12020, 7025, 15025};
        for (int i = 0; i < due.length; i++) {
            is("29 25", h.corners(25, i), due[i]);
            is("29 500", h.corners(500, i), due[i]);
        }
        is("29 NONE", h.corners(25, 8), NONE);
        is("29 500", h.corners(500, -1), 386);
        is("29 500", h.corners(500, 385), 300500);
        is("29 NONE", h.corners(500, 386), NONE);
        is("29 1", h.corners(1, -1), 0);
        is("29 NONE far", h.corners(500, MOST), NONE);
        each("29 BAD", BAD, h.corners(0, 0), h.corners(501, 0), h.corners(5, -2), h.corners(-5, -1), h.corners(5, LEAST), h.corners(MOST, 0));
    }

    static void promise30() {
        fresh();
        is("30 1", h.string(1), 0);
        is("30 2", h.string(2), 0);
        is("30 11", h.string(11), 0);
        is("30 12", h.string(12), 1);
        is("30 24", h.string(24), 1);
        is("30 60", h.string(60), 2);
        is("30 120", h.string(120), 3);
        is("30 840", h.string(840), 8);
        is("30 99999", h.string(99999), 0);
        is("30 100000", h.string(100000), 2);
        is("30 55440", h.string(55440), 40);
        each("30 BAD", BAD, h.string(0), h.string(100001), h.string(-12), h.string(LEAST), h.string(MOST));
    }

    static void promise31() {
        fresh();
        is("31 so", claims("36=s6"), NONE);
        is("31 tape is empty", h.type(' ', 1), 1);
        h.claims();
        is("31 not so", claims("36=s7"), 0);
        is("31 letters", claims("36=s6,36=t8,42=o6,35=c5:5,75=h5:5"), NONE);
        is("31 second", claims("36=s6,36=t7,42=o5"), 1);
        is("31 last of 8", claims("0=s0,1=s1,1=t1,2=o1,1=c3:1,1=h3:1,0=h99:0,5=c5:3"), 7);
        is("31 a ninth", claims("0=s0,0=s0,0=s0,0=s0,0=s0,0=s0,0=s0,0=s0,0=s0"), -59);
        is("31 blanks", claims("  36 = c 5 : 5 , 35 = c 5 : 5 "), 0);
        is("31 noughts", claims("000000000000000036=s000000000000000006"), NONE);
        is("31 19 figures", claims("0000000000000000036=s6"), -20);
        is("31 19 figures behind", claims("36=s0000000000000000006"), -24);
        is("31 19 figures of k", claims("1=c0000000000000000003:1"), -23);
        is("31 18 figures", claims("999999998000000001=s999999999"), NONE);
        is("31 most n", claims("1=c99:999999999"), 0);
        is("31 n too great", claims("36=s1000000000"), -24);
        is("31 n too great behind blanks", claims("36 = s  1000000000"), -28);
        is("31 k too small", claims("36=c2:6"), -24);
        is("31 k too great", claims("36=h100:6"), -24);
        is("31 k 99", claims("99=c99:2,100=h99:2"), NONE);
        is("31 empty", h.claims(), -20);
        is("31 blanks alone", claims("   "), -23);
        is("31 a letter for a number", claims("x"), -20);
        is("31 no =", claims("36"), -22);
        is("31 no =", claims("36s6"), -22);
        is("31 a blank ends a number", claims("3 6=s6"), -22);
        is("31 a blank ends n", claims("36=s6 0"), -26);
        is("31 no letter", claims("36="), -23);
        is("31 no such letter", claims("36=x6"), -23);
        is("31 great letter", claims("36=S6"), -23);
        is("31 no n", claims("36=s"), -24);
        is("31 no k", claims("36=c:6"), -24);
        is("31 no :", claims("36=c6"), -25);
        is("31 no : ", claims("36=c6 6"), -26);
        is("31 : of a square", claims("36=s6:6"), -25);
        is("31 no n behind :", claims("36=c5:"), -26);
        is("31 ; for ,", claims("36=s6;"), -25);
        is("31 end behind ,", claims("36=s6,"), -26);
        is("31 end behind , and blanks", claims("36=s6,  "), -28);
        is("31 a fault beats what is not so", claims("1=s6,1=x"), -27);
        is("31 minus", claims("-1=s1"), -20);
        is("31 tape is empty behind a fault", h.type('1', 1), 1);
        h.put(0, 7);
        is("31 tape", h.number(0), 1);
        is("31 great values", claims("999999999999999999=c99:999999999"), 0);
    }

    static void promises32And33() {
        fresh();
        is("33 NONE", h.restore(), NONE);
        h.put(0, 5);
        h.shape(1, 3, 7);
        is("32", h.image(), 1);
        h.put(0, 6);
        h.shape(1, 3, 8);
        h.put(2, 9);
        h.sheet(0, 1, 3);
        type("12");
        is("33", h.restore(), 1);
        holds("33 number", 0, "5");
        is("33 nothing", h.told(2), 0);
        h.put(3, 2);
        h.nth(1, 3, 3);
        holds("33 shape", 3, "7");
        is("33 sheets are no places", h.drop(0), 3);
        is("33 the tape is none", h.type('3', 1), 3);
        is("33 again", h.restore(), 1);
        is("33 again", h.told(3), 0);
        holds("33 again", 0, "5");
        h.empty(0);
        is("32 again", h.image(), 1);
        h.put(0, 8);
        h.restore();
        is("32 the later one", h.told(0), 0);
    }

    static void promise34() {
        fresh();
        h.sheet(0, 2, 24);
        for (int i = 0; i < 24; i++) {
            h.item(0, 2, i, Long.MAX_VALUE);
        }
        is("34", h.heap(0, 2, 0, 24, 0), 21);
        holds("34", 0, new BigInteger("9223372036854775807").multiply(BigInteger.valueOf(24)).toString());
        is("34", h.heap(0, 2, 23, 1, 0), 19);
        h.sheet(1, 0, 3);
        h.item(1, 0, 1, 5);
        h.item(1, 0, 2, 7);
        is("34", h.heap(1, 0, 0, 3, 1), 2);
        holds("34", 1, "12");
        is("34", h.heap(1, 0, 1, 1, 1), 1);
        holds("34", 1, "5");
        each("34 BAD", BAD, h.heap(4, 0, 0, 1, 1), h.heap(-1, 0, 0, 1, 1), h.heap(1, 3, 0, 1, 1), h.heap(1, -1, 0, 1, 1), h.heap(1, 0, 0, 0, 1),
                h.heap(1, 0, 0, 25, 1), h.heap(1, 0, 0, 1, 8), h.heap(1, 0, 0, 1, -1), h.heap(1, 0, 0, -1, 1), h.heap(3, 0, 0, 0, 1));
        is("34 NULL", h.heap(3, 0, 0, 1, 1), NULL);
        is("34 CAST", h.heap(1, 1, 0, 1, 1), CAST);
        is("34 CAST ahead of INDEX", h.heap(1, 2, 9, 1, 1), CAST);
        each("34 INDEX", INDEX, h.heap(1, 0, 3, 1, 1), h.heap(1, 0, -1, 1, 1), h.heap(1, 0, 1, 3, 1), h.heap(1, 0, MOST, 24, 1),
                h.heap(1, 0, LEAST, 24, 1), h.heap(1, 0, 0, 24, 1));
        h.item(1, 0, 1, -1);
        is("34 NOT", h.heap(1, 0, 0, 3, 1), NOT);
        is("34 INDEX ahead of NOT", h.heap(1, 0, 1, 3, 1), INDEX);
        is("34 beside it", h.heap(1, 0, 2, 1, 2), 1);
        holds("34 refusals change nothing", 1, "5");
        h.sheet(2, 1, 0);
        is("34 an empty row", h.heap(2, 1, 0, 1, 1), INDEX);
        h.shape(5, 1, 0);
        is("34 over a shape", h.heap(1, 0, 0, 1, 5), 1);
        holds("34 over a shape", 5, "0");
    }

    static void promise35() {
        fresh();
        is("35", h.sheet(0, 0, 24), 24);
        is("35", h.sheet(1, 1, 0), 0);
        is("35", h.sheet(3, 2, 1), 1);
        h.item(3, 2, 0, 9);
        is("35 new", h.sheet(3, 2, 2), 2);
        is("35 noughts", h.heap(3, 2, 0, 2, 0), 1);
        holds("35 noughts", 0, "0");
        is("35 another lane", h.sheet(3, 0, 5), 5);
        is("35 another lane", h.item(3, 2, 0, 1), CAST);
        each("35 BAD", BAD, h.sheet(4, 0, 1), h.sheet(-1, 0, 1), h.sheet(0, 3, 1), h.sheet(0, -1, 1), h.sheet(0, 0, 25), h.sheet(4, 0, -1),
                h.sheet(0, 3, -1), h.sheet(0, 0, MOST));
        each("35 SIZE", SIZE, h.sheet(0, 0, -1), h.sheet(0, 0, LEAST), h.sheet(2, 1, -1));
        is("35 refusals change nothing", h.drop(0), 24);
        is("35 refusals change nothing", h.drop(2), NULL);
    }

    static void promise36() {
        fresh();
        h.sheet(0, 0, 7);
        h.sheet(1, 1, 0);
        is("36", h.drop(0), 7);
        is("36 NULL", h.drop(0), NULL);
        is("36 none", h.drop(1), 0);
        is("36 NULL", h.drop(1), NULL);
        is("36 then", h.item(0, 0, 0, 1), NULL);
        each("36 BAD", BAD, h.drop(4), h.drop(-1), h.drop(LEAST), h.drop(MOST));
    }

    static void item(int lane, long v, long due) {
        h.sheet(0, lane, 1);
        is("37 item", h.item(0, lane, 0, v), 1);
        is("37 cut " + lane + " " + v, h.heap(0, lane, 0, 1, 0), due < 0 ? NOT : ("" + due).length());
        if (due >= 0) {
            holds("37 cut " + lane + " " + v, 0, "" + due);
        }
    }

    static void promise37() {
        fresh();
        item(0, 5, 5);
        item(0, 32767, 32767);
        item(0, 32768, -32768);
        item(0, 65536 + 12, 12);
        item(0, -65535, 1);
        item(1, 2147483647L, 2147483647L);
        item(1, 2147483648L, -1);
        item(1, (1L << 32) + 9, 9);
        item(1, 70000, 70000);
        item(2, Long.MAX_VALUE, Long.MAX_VALUE);
        item(2, Long.MIN_VALUE, -1);
        item(2, (1L << 32) + 9, (1L << 32) + 9);
        h.sheet(1, 0, 3);
        each("37 BAD", BAD, h.item(4, 0, 0, 1), h.item(-1, 0, 0, 1), h.item(1, 3, 0, 1), h.item(1, -1, 0, 1));
        is("37 NULL", h.item(3, 0, 0, 1), NULL);
        is("37 CAST", h.item(1, 1, 0, 1), CAST);
        is("37 CAST ahead of INDEX", h.item(1, 2, -1, 1), CAST);
        each("37 INDEX", INDEX, h.item(1, 0, 3, 1), h.item(1, 0, -1, 1), h.item(1, 0, MOST, 1), h.item(1, 0, LEAST, 1), h.item(1, 0, 24, 1));
        is("37 refusals change nothing", h.heap(1, 0, 0, 3, 0), 1);
        holds("37 refusals change nothing", 0, "0");
    }

    static void promise38() {
        fresh();
        read("1000000002000000003", 0);
        h.sheet(0, 1, 24);
        is("38", h.film(0, 0, 1, 1), 3);
        int[] due = {0, 3, 2, 1, 0};
        for (int i = 0; i < due.length; i++) {
            h.heap(0, 1, i, 1, 1);
            holds("38 item " + i, 1, "" + due[i]);
        }
        h.put(2, 0);
        h.item(0, 1, 5, 77);
        is("38 0", h.film(2, 0, 1, 5), 1);
        h.heap(0, 1, 5, 1, 1);
        holds("38 0", 1, "0");
        big(3, nines(216), 7);
        is("38 longest", h.film(3, 0, 1, 0), 24);
        h.heap(0, 1, 23, 1, 1);
        holds("38 longest", 1, "999999999");
        h.sheet(1, 0, 4);
        h.put(2, 32767);
        h.film(2, 1, 0, 0);
        h.put(2, 65536 + 3);
        h.film(2, 1, 0, 1);
        h.put(2, 32768);
        h.film(2, 1, 0, 2);
        h.heap(1, 0, 0, 2, 1);
        holds("38 shorts", 1, "32770");
        is("38 shorts with their sign", h.heap(1, 0, 2, 1, 1), NOT);
        h.sheet(2, 2, 2);
        h.put(2, 5_000_000_006L);
        is("38 longs", h.film(2, 2, 2, 0), 2);
        h.heap(2, 2, 0, 2, 1);
        holds("38 longs", 1, "11");
        h.shape(6, 0, 0);
        each("38 BAD", BAD, h.film(8, 0, 1, 0), h.film(-1, 0, 1, 0), h.film(0, 4, 1, 0), h.film(0, -1, 1, 0), h.film(0, 0, 3, 0),
                h.film(0, 0, -1, 0), h.film(5, 4, 1, 0));
        is("38 NULL place", h.film(5, 0, 1, 0), NULL);
        is("38 NULL sheet", h.film(0, 3, 1, 0), NULL);
        is("38 CAST place", h.film(6, 0, 1, 0), CAST);
        is("38 CAST of the place first", h.film(6, 3, 1, 0), CAST);
        is("38 NULL of the place first", h.film(5, 0, 2, 0), NULL);
        is("38 CAST sheet", h.film(0, 0, 2, 0), CAST);
        is("38 CAST ahead of INDEX", h.film(0, 0, 0, -1), CAST);
        h.put(0, 1_000_000_000);
        h.sheet(0, 1, 2);
        each("38 INDEX", INDEX, h.film(0, 0, 1, 1), h.film(0, 0, 1, -1), h.film(0, 0, 1, 2), h.film(0, 0, 1, MOST), h.film(0, 0, 1, LEAST));
        h.heap(0, 1, 0, 2, 1);
        holds("38 INDEX changes nothing", 1, "0");
        is("38 fits", h.film(0, 0, 1, 0), 2);
    }

    public static void main(String[] args) {
        constants();
        promise1();
        promise2();
        promise3();
        promise4();
        promise5();
        promise6();
        promise7();
        promise8();
        promise9();
        promise10();
        promise11();
        promise12();
        promises13And14();
        promise13();
        promise14();
        promises15And16();
        promise17();
        promise18();
        promise19();
        promise20();
        promise21();
        promise22();
        promise23();
        promise24();
        promise25();
        promise26();
        promise27();
        promise28();
        promise29();
        promise30();
        promise31();
        promises32And33();
        promise34();
        promise35();
        promise36();
        promise37();
        promise38();
        end("PromiseTest");
    }
}
