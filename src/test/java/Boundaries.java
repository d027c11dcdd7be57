import java.math.BigInteger;
import java.util.HashMap;
import java.util.Map;

/** What the tests of the boundaries share: asking, a furnished object, and whether a refused call changed nothing. */
class Boundaries {
    static final int BAD = -1, NOT = -2, FULL = -3, NONE = -4, NULL = -11, CAST = -12, INDEX = -13, SIZE = -14, ZERO = -15;
    static final int LEAST = Integer.MIN_VALUE, MOST = Integer.MAX_VALUE;
    static final BigInteger LIMIT = BigInteger.TEN.pow(216);

    // the places of a furnished object
    static final int SOME = 0, NOUGHT = 1, LONGEST = 2, TRIANGLE = 3, HEAP = 4, NOTHING = 5, FREE = 6, SEVEN = 7;

    // what a call may change beside the places, which are bits 0 .. 7; sheets are bits from SHEETS on
    static final int TAPE = 1 << 8, IMAGE = 1 << 9, SHEETS = 1 << 10;

    private static final int[] FAR = {LEAST, MOST, 1 << 31 | 8, 1 << 16, 1 << 8};

    private static int wrong;
    private static int asked;
    private static String sentence = "";
    private static final Map<Integer, String> UNTOUCHED = new HashMap<>();

    interface Call {
        int on(Heaps h);
    }

    interface CallWith {
        int on(Heaps h, int x);
    }

    interface CallOfTwo {
        int on(Heaps h, int a, int b);
    }

    interface Setup {
        void on(Heaps h);
    }

    /** Names the sentence of the document that the next questions are about. */
    static void sentence(String words) {
        sentence = words;
    }

    static void is(String call, String got, String due) {
        asked++;
        if (!got.equals(due)) {
            wrong++;
            System.out.println("[" + sentence + "] " + call + ": " + got + ", due " + due);
        }
    }

    static void is(String call, long got, long due) {
        is(call, "" + got, "" + due);
    }

    static void end(String test) {
        System.out.println(test + ": " + asked + " asked, " + wrong + " wrong");
        System.exit(wrong == 0 && asked > 0 ? 0 : 1);
    }

    // ---- asking a furnished object

    /** The call is answered with what is due, and changes nothing but what it may. */
    static Heaps gives(String call, int due, int but, Call asking) {
        Heaps h = furnished();
        is(call, asking.on(h), due);
        unchanged(h, call, but);
        h = furnished();
        asking.on(h);
        return h;
    }

    /** The call is answered with how many figures a number has, which then is in a place. */
    static Heaps givesNumber(String call, String due, int place, Call asking) {
        return givesNumber(call, due.length(), due, place, asking);
    }

    /** The call is answered as due, and a number is in a place then. */
    static Heaps givesNumber(String call, int answer, String due, int place, Call asking) {
        Heaps h = gives(call, answer, 1 << place, asking);
        holds(h, call, place, due);
        return h;
    }

    /** The call is answered with how many figures the first has of two numbers, which then are in two places. */
    static void givesTwo(String call, String[] due, int first, int second, Call asking) {
        Heaps h = gives(call, due[0].length(), 1 << first | 1 << second, asking);
        holds(h, call, first, due[0]);
        holds(h, call, second, due[1]);
    }

    /** The call is refused as due, and the object answers all else as if it had not been called. */
    static void refused(String call, int due, Call asking) {
        Heaps h = furnished();
        is(call, asking.on(h), due);
        unchanged(h, call, 0);
    }

    private static void unchanged(Heaps h, String call, int but) {
        is(call + " changes nothing else", all(h, but), UNTOUCHED.computeIfAbsent(but, key -> all(furnished(), key)));
    }

    /** As refused, behind calls that make another state. */
    static void refused(String call, int due, Setup setup, Call asking) {
        Heaps other = furnished();
        setup.on(other);
        Heaps h = furnished();
        setup.on(h);
        is(call, asking.on(h), due);
        is(call + " changes nothing", all(h), all(other));
    }

    /** What is less than the least or more than the most is BAD, near by and far off. */
    static void outside(String call, int least, int most, CallWith asking) {
        below(call, least, asking);
        above(call, most, asking);
    }

    static void below(String call, int least, CallWith asking) {
        refused(call + " with " + (least - 1), BAD, h -> asking.on(h, least - 1));
        for (int x : FAR) {
            if (x < least) {
                refused(call + " with " + x, BAD, h -> asking.on(h, x));
            }
        }
    }

    static void above(String call, int most, CallWith asking) {
        refused(call + " with " + (most + 1), BAD, h -> asking.on(h, most + 1));
        for (int x : FAR) {
            if (x > most) {
                refused(call + " with " + x, BAD, h -> asking.on(h, x));
            }
        }
    }

    /** What is no place, 0 .. 7, is BAD. */
    static void noPlace(String call, CallWith asking) {
        outside(call + " of a place", 0, 7, asking);
    }

    /** What is no d, 2 .. 9999 and no square, is BAD. */
    static void noRootless(String call, CallWith asking) {
        outside(call + " of d", 2, 9999, asking);
        for (int d : new int[] {0, -2, 4, 9, 16, 9604, 9801, 10001, 10002}) {
            refused(call + " of d " + d, BAD, h -> asking.on(h, d));
        }
    }

    /** Two places asked for numbers: the first for nothing, then for a shape, and then the second. */
    static void twoPlaces(String call, int ofNothing, int ofShape, CallOfTwo asking) {
        for (int other : new int[] {NOTHING, FREE, TRIANGLE, HEAP, SOME, NOUGHT, LONGEST, SEVEN}) {
            refused(call + " of nothing and " + other, ofNothing, h -> asking.on(h, NOTHING, other));
            refused(call + " of a triangle and " + other, ofShape, h -> asking.on(h, TRIANGLE, other));
            refused(call + " of a heap and " + other, ofShape, h -> asking.on(h, HEAP, other));
        }
        for (int number : new int[] {SOME, NOUGHT, LONGEST, SEVEN}) {
            refused(call + " of " + number + " and nothing", ofNothing, h -> asking.on(h, number, NOTHING));
            refused(call + " of " + number + " and a triangle", ofShape, h -> asking.on(h, number, TRIANGLE));
            refused(call + " of " + number + " and a heap", ofShape, h -> asking.on(h, number, HEAP));
        }
    }

    // ---- what an object holds

    static void type(Heaps h, String text) {
        for (int from = 0; from < text.length(); from += 8) {
            String piece = text.substring(from, Math.min(text.length(), from + 8));
            long w = 0;
            for (int i = 0; i < piece.length(); i++) {
                w = w << 8 | piece.charAt(i);
            }
            h.type(w, piece.length());
        }
    }

    static int read(Heaps h, String text, int place) {
        type(h, text);
        return h.number(place);
    }

    static int claims(String text) {
        Heaps h = new Heaps();
        type(h, text);
        return h.claims();
    }

    /** A number of up to 216 figures comes to a place, by way of another, which holds nothing then. */
    static void big(Heaps h, int place, String figures, int by) {
        int from = figures.length() % 72 == 0 ? 72 : figures.length() % 72;
        read(h, figures.substring(0, from), place);
        for (; from < figures.length(); from += 72) {
            h.put(by, 1_000_000_000_000_000_000L);
            h.reckon(2, by, by, by);
            h.reckon(2, by, by, by);
            h.reckon(2, place, by, place);
            read(h, figures.substring(from, from + 72), by);
            h.reckon(0, place, by, place);
        }
        h.empty(by);
    }

    static void big(Heaps h, int place, BigInteger v, int by) {
        big(h, place, v.toString(), by);
    }

    static String text(Heaps h, int place) {
        int told = h.told(place);
        return told == 1 ? figuresOf(h, place) : "told " + told;
    }

    private static String figuresOf(Heaps h, int place) {
        int figures = h.figures(place);
        StringBuilder all = new StringBuilder();
        for (int i = Math.min(23, figures / 9); i >= 0; i--) {
            String nine = "" + h.nine(place, i);
            all.append("0".repeat(Math.max(0, 9 - nine.length()))).append(nine);
        }
        int noughts = 0;
        while (noughts < all.length() - 1 && all.charAt(noughts) == '0') {
            noughts++;
        }
        String text = all.substring(noughts);
        return text.length() == figures ? text : text + " told as of " + figures + " figures";
    }

    static void holds(Heaps h, String call, int place, String due) {
        is(call + ": place " + place, text(h, place), due);
    }

    static String nines(int n) {
        return "9".repeat(n);
    }

    static String ten(int power) {
        return "1" + "0".repeat(power);
    }

    // ---- a furnished object, and all that it can be asked for

    /** Each kind of thing in places and sheets, two figures on the tape, another image. */
    static Heaps furnished() {
        Heaps h = new Heaps();
        h.put(FREE, 11);
        h.shape(NOTHING, 3, 9);
        h.image();
        h.empty(FREE);
        h.put(SOME, 36);
        h.put(NOUGHT, 0);
        big(h, LONGEST, nines(216), NOTHING);
        h.shape(TRIANGLE, 1, 0);
        h.shape(HEAP, 4, 5);
        h.put(SEVEN, 7);
        h.sheet(0, 0, 3);
        h.item(0, 0, 0, 5);
        h.item(0, 0, 1, -1);
        h.item(0, 0, 2, 7);
        h.sheet(1, 1, 24);
        h.item(1, 1, 0, 60);
        h.item(1, 1, 23, 70);
        h.sheet(2, 2, 0);
        type(h, "12");
        return h;
    }

    /** All that an object tells, as a text; what is asked changes it. */
    static String all(Heaps h) {
        return all(h, 0);
    }

    static String all(Heaps h, int but) {
        StringBuilder all = new StringBuilder();
        tellPlaces(h, but, all);
        tellShapes(h, but, all);
        if ((but & TAPE) == 0) {
            all.append(" tape ").append(h.number(FREE)).append(' ').append(text(h, FREE));
        }
        for (int sheet = 0; sheet < 4; sheet++) {
            if ((but & SHEETS << sheet) == 0) {
                tellSheet(h, sheet, all);
            }
        }
        if ((but & IMAGE) == 0) {
            all.append(" image ").append(h.restore());
            tellPlaces(h, 0, all);
            tellShapes(h, 0, all);
        }
        return all.toString();
    }

    private static void tellPlaces(Heaps h, int but, StringBuilder all) {
        for (int place = 0; place < 8; place++) {
            if ((but & 1 << place) == 0) {
                all.append(' ').append(place).append(": ").append(text(h, place));
            }
        }
    }

    // the third of a shape tells its kind and its k
    private static void tellShapes(Heaps h, int but, StringBuilder all) {
        for (int place = 0; place < 8; place++) {
            if ((but & 1 << place) == 0 && h.told(place) > 1) {
                int by = place == FREE ? NOTHING : FREE;
                h.put(by, 3);
                h.nth(place, by, by);
                all.append(" third ").append(text(h, by));
            }
        }
    }

    private static void tellSheet(Heaps h, int sheet, StringBuilder all) {
        for (int lane = 0; lane < 3; lane++) {
            for (int i = 0; i < 25; i++) {
                int answer = h.heap(sheet, lane, i, 1, FREE);
                all.append(i == 0 ? " sheet " : " ").append(answer > 0 ? text(h, FREE) : "" + answer);
                if (answer == NULL || answer == CAST || answer == INDEX || answer == BAD) {
                    break;
                }
            }
        }
        all.append(" dropped ").append(h.drop(sheet));
    }

    // ---- a second reading of the shapes

    static final String LETTERS = "stoch";

    static BigInteger corners(int k, BigInteger n) {
        return n.multiply(n).multiply(BigInteger.valueOf(k - 2)).subtract(n.multiply(BigInteger.valueOf(k - 4))).shiftRight(1);
    }

    /** The n-th of a shape; k counts for corners and heaps alone. */
    static BigInteger term(int kind, int k, BigInteger n) {
        switch (kind) {
            case 0:
                return n.multiply(n);
            case 1:
                return corners(3, n);
            case 2:
                return n.multiply(n).add(n);
            case 3:
                return corners(k, n);
            default:
                // n (n + 1) ((k - 2) n - (k - 5)) by 6: a test of small n adds them up one by one
                BigInteger last = n.multiply(BigInteger.valueOf(k - 2)).subtract(BigInteger.valueOf(k - 5));
                return n.multiply(n).add(n).multiply(last).divide(BigInteger.valueOf(6));
        }
    }

    /** The greatest n whose term is of 216 figures at most. */
    static BigInteger lastThatFits(int kind, int k) {
        BigInteger fits = BigInteger.ZERO;
        BigInteger full = LIMIT;
        while (full.subtract(fits).compareTo(BigInteger.ONE) > 0) {
            BigInteger middle = fits.add(full).shiftRight(1);
            if (term(kind, k, middle).compareTo(LIMIT) < 0) {
                fits = middle;
            } else {
                full = middle;
            }
        }
        return fits;
    }

    static boolean isSquare(long v) {
        long root = Math.round(Math.sqrt((double) Math.max(0, v)));
        return v >= 0 && root * root == v;
    }
}
