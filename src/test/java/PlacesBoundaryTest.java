import java.math.BigInteger;

/** Promises 1 to 14: each sentence that names a boundary case has a test of its own. */
public class PlacesBoundaryTest extends Boundaries {

    // ---- 1 a new object

    static void newObjectHoldsNothing() {
        sentence("1: Nothing anywhere");
        Heaps h = new Heaps();
        for (int place = 0; place < 8; place++) {
            is("told", h.told(place), 0);
            is("figures", h.figures(place), NULL);
            is("empty", h.empty(place), 0);
        }
        for (int sheet = 0; sheet < 4; sheet++) {
            for (int lane = 0; lane < 3; lane++) {
                is("item", h.item(sheet, lane, 0, 1), NULL);
                is("heap", h.heap(sheet, lane, 0, 1, 0), NULL);
            }
            is("drop", h.drop(sheet), NULL);
        }
        is("restore", h.restore(), NONE);
        is("number of an empty tape", new Heaps().number(0), -20);
        is("claims of an empty tape", new Heaps().claims(), -20);
        is("type", new Heaps().type('7', 1), 1);
    }

    static void objectsShareNothing() {
        sentence("1: Nothing anywhere, whatever another object holds");
        Heaps other = furnished();
        newObjectHoldsNothing();
        is("the other one", all(other), all(furnished()));
    }

    // ---- 2 put

    static void putPlaces() {
        sentence("2: A PLACE (0 .. 7)");
        noPlace("put", (h, x) -> h.put(x, 1));
        for (int place = 0; place < 8; place++) {
            int to = place;
            givesNumber("put " + place, "85", place, h -> h.put(to, 85));
        }
    }

    static void putNumbers() {
        sentence("2: a NUMBER v (0 or more)");
        givesNumber("put 0", "0", FREE, h -> h.put(FREE, 0));
        givesNumber("put 1", "1", FREE, h -> h.put(FREE, 1));
        givesNumber("put most", "9223372036854775807", FREE, h -> h.put(FREE, Long.MAX_VALUE));
        givesNumber("put 2^32", "4294967296", FREE, h -> h.put(FREE, 1L << 32));
        givesNumber("put 2^31", "2147483648", FREE, h -> h.put(FREE, 1L << 31));
        for (long v : new long[] {-1, -2, -1_000_000_000L, Integer.MIN_VALUE, Long.MIN_VALUE, Long.MIN_VALUE + 1}) {
            refused("put " + v, BAD, h -> h.put(SOME, v));
            refused("put " + v + " where nothing is", BAD, h -> h.put(NOTHING, v));
        }
        refused("put -1 nowhere", BAD, h -> h.put(8, -1));
    }

    static void putTellsFigures() {
        sentence("2: how many figures (1 of 0)");
        Heaps h = new Heaps();
        is("of 0", h.put(0, 0), 1);
        long ten = 1;
        for (int figures = 1; figures <= 18; figures++) {
            ten *= 10;
            is("before " + ten, h.put(0, ten - 1), figures);
            holds(h, "before " + ten, 0, "" + (ten - 1));
            is("from " + ten, h.put(0, ten), figures + 1);
            holds(h, "from " + ten, 0, "" + ten);
        }
    }

    static void putReplaces() {
        sentence("2: whatever the PLACE holds");
        for (int place = 0; place < 8; place++) {
            int to = place;
            Heaps h = givesNumber("put over", "12", place, g -> g.put(to, 12));
            is("nothing of a longer one stays", h.nine(place, 23) + h.nine(place, 1), 0);
        }
    }

    // ---- 3 shape

    static void shapePlaces() {
        sentence("3: A PLACE (0 .. 7) holds a SHAPE");
        noPlace("shape", (h, x) -> h.shape(x, 0, 0));
        noPlace("shape with corners", (h, x) -> h.shape(x, 3, 3));
        for (int place = 0; place < 8; place++) {
            int to = place;
            is("told", gives("shape", 1, 1 << to, h -> h.shape(to, 2, 0)).told(place), 4);
            is("told", gives("shape", 1, 1 << to, h -> h.shape(to, 4, 6)).told(place), 6);
        }
    }

    static void shapeKinds() {
        sentence("3: a SHAPE 0 .. 4");
        outside("shape of kind, k 0,", 0, 4, (h, x) -> h.shape(SOME, x, 0));
        outside("shape of kind, k 3,", 0, 4, (h, x) -> h.shape(SOME, x, 3));
        for (int kind = 0; kind < 5; kind++) {
            int asked = kind;
            is("told", gives("shape", 1, 1 << SOME, h -> h.shape(SOME, asked, asked < 3 ? 0 : 3)).told(SOME), 2 + kind);
        }
    }

    static void shapeCorners() {
        sentence("3: k 3 .. 99 of 3, 4");
        for (int kind = 3; kind < 5; kind++) {
            int asked = kind;
            outside("shape of k", 3, 99, (h, x) -> h.shape(SEVEN, asked, x));
            refused("shape of k 0", BAD, h -> h.shape(SEVEN, asked, 0));
            refused("shape of k 1", BAD, h -> h.shape(SEVEN, asked, 1));
            is("told", gives("shape of k 3", 1, 1 << SEVEN, h -> h.shape(SEVEN, asked, 3)).told(SEVEN), 2 + kind);
            is("told", gives("shape of k 99", 1, 1 << SEVEN, h -> h.shape(SEVEN, asked, 99)).told(SEVEN), 2 + kind);
        }
    }

    static void shapeNoCorners() {
        sentence("3: k 0 of others");
        for (int kind = 0; kind < 3; kind++) {
            int asked = kind;
            outside("shape " + kind + " of k", 0, 0, (h, x) -> h.shape(NOTHING, asked, x));
            for (int k : new int[] {2, 3, 4, 99, 100}) {
                refused("shape " + kind + " of k " + k, BAD, h -> h.shape(NOTHING, asked, k));
            }
            gives("shape " + kind + " of k 0", 1, 1 << NOTHING, h -> h.shape(NOTHING, asked, 0));
        }
    }

    static void shapeReplaces() {
        sentence("3: whatever the PLACE holds");
        Heaps h = gives("over a shape", 1, 1 << HEAP, g -> g.shape(HEAP, 3, 8));
        is("told", h.told(HEAP), 5);
        h.put(FREE, 3);
        h.nth(HEAP, FREE, FREE);
        holds(h, "its own k", FREE, "21");
        is("number over it", h.put(HEAP, 4), 1);
        is("a shape again", h.shape(HEAP, 0, 0), 1);
        h.put(FREE, 3);
        h.nth(HEAP, FREE, FREE);
        holds(h, "no k of before", FREE, "9");
    }

    // ---- 4 empty, 5 told

    static void emptyPlaces() {
        sentence("4: A PLACE (0 .. 7)");
        noPlace("empty", (h, x) -> h.empty(x));
        sentence("4: what it held, as told(); it holds nothing then");
        int[] held = {1, 1, 1, 3, 6, 0, 0, 1};
        for (int place = 0; place < 8; place++) {
            int asked = place;
            Heaps h = gives("empty " + place, held[place], 1 << place, g -> g.empty(asked));
            is("told", h.told(place), 0);
            is("figures", h.figures(place), NULL);
            is("empty again", h.empty(place), 0);
        }
        Heaps h = new Heaps();
        for (int kind = 0; kind < 5; kind++) {
            h.shape(7, kind, kind < 3 ? 0 : 7);
            is("empty of a shape", h.empty(7), 2 + kind);
            is("then", h.told(7), 0);
        }
    }

    static void toldPlaces() {
        sentence("5: What a PLACE (0 .. 7) holds");
        noPlace("told", (h, x) -> h.told(x));
        sentence("5: 0 nothing, 1 a NUMBER, 2 and its kind a SHAPE");
        int[] held = {1, 1, 1, 3, 6, 0, 0, 1};
        for (int place = 0; place < 8; place++) {
            int asked = place;
            refused("told " + place, held[place], h -> h.told(asked));
        }
        for (int kind = 0; kind < 5; kind++) {
            int asked = kind;
            is("told", gives("shape", 1, 1 << FREE, h -> h.shape(FREE, asked, asked < 3 ? 0 : 99)).told(FREE), 2 + kind);
        }
    }

    // ---- 6 type

    static void typeCounts() {
        sentence("6: The n lowest bytes (1 .. 8)");
        long w = 0x3132333435363738L;
        outside("type of n", 1, 8, (h, x) -> h.type(w, x));
        String bytes = "12345678";
        for (int n = 1; n <= 8; n++) {
            Heaps h = new Heaps();
            is("type " + n, h.type(w, n), n);
            is("number", h.number(0), n);
            holds(h, "the lowest, of these the highest first", 0, bytes.substring(8 - n));
        }
    }

    static void typeBytes() {
        sentence("6: BAD: a byte not 32 .. 126");
        int[] bad = {31, 127, 0, 10, 128, 255, 159, 160};
        for (int n = 1; n <= 8; n++) {
            for (int at = 0; at < n; at++) {
                int asked = n;
                for (int b : bad) {
                    long w = with(b, at);
                    refused("type " + Long.toHexString(w) + " " + n, BAD, h -> h.type(w, asked));
                }
                gives("a blank", n + 2, TAPE, h -> h.type(with(32, asked - 1), asked));
                gives("126", n + 2, TAPE, h -> h.type(with(126, asked - 1), asked));
            }
        }
    }

    /** Eight noughts, one of them another byte. */
    static long with(int b, int at) {
        return 0x3030303030303030L & ~(255L << 8 * at) | (long) b << 8 * at;
    }

    static void typeHigherBytes() {
        sentence("6: The n lowest bytes: what is higher does not count");
        for (int n = 1; n < 8; n++) {
            for (int b : new int[] {0, 31, 127, 255}) {
                int asked = n;
                gives("type " + n, n + 2, TAPE, h -> h.type(with(b, asked), asked));
                gives("type " + n, n + 2, TAPE, h -> h.type(with(b, 7), asked));
            }
        }
    }

    /** A tape of so many blanks. */
    static Heaps blank(int n) {
        Heaps h = new Heaps();
        type(h, " ".repeat(n));
        return h;
    }

    static void typeFull() {
        sentence("6: FULL: 100");
        for (int n = 1; n <= 8; n++) {
            Heaps h = blank(100 - n);
            is("as much as fits", h.type(0x3132333435363738L, n), 100);
            is("no more", h.type('1', 1), FULL);
            is("all are there", h.number(0), n);
            h = blank(101 - n);
            is("one more", h.type(0x3132333435363738L, n), FULL);
            is("nothing of it is there", h.number(0), -20 - (101 - n));
            h = blank(101 - n);
            h.type(0x3132333435363738L, n);
            if (n > 1) {
                is("what fits still comes", h.type(0x3132333435363738L, n - 1), 100);
            }
        }
        is("of 100", blank(100).type(0x3132333435363738L, 8), FULL);
        is("100 bytes are read", blank(100).number(0), -120);
    }

    static void typeBadAheadOfFull() {
        sentence("6: BAD ahead of FULL");
        is("n 0", blank(100).type('1', 0), BAD);
        is("n 9", blank(100).type('1', 9), BAD);
        is("a byte", blank(100).type(31, 1), BAD);
        is("a byte", blank(99).type(0x317F, 2), BAD);
        is("a byte that would not fit", blank(99).type(0x7F31, 2), BAD);
    }

    // ---- 7 number

    static void numberBad() {
        sentence("7: BAD (THE TAPE stays)");
        noPlace("number", (h, x) -> h.number(x));
        Heaps h = new Heaps();
        type(h, "1x");
        is("BAD ahead of a FAULT", h.number(8), BAD);
        is("the tape stays", h.number(0), -21);
        is("then it is empty", h.number(0), -20);
    }

    static void numberComes() {
        sentence("7: THE TAPE, which is empty then, is a NUMBER, which comes to a PLACE");
        for (int place = 0; place < 8; place++) {
            int to = place;
            Heaps h = gives("number", 2, TAPE | 1 << place, g -> g.number(to));
            holds(h, "number", place, "12");
            is("the tape is empty", h.type('3', 1), 1);
        }
    }

    static void numberFaultLeavesNoTape() {
        sentence("7: THE TAPE is empty then, whatever is answered; a FAULT changes no PLACE");
        for (int place = 0; place < 8; place++) {
            int to = place;
            Heaps h = gives("a fault", -22, TAPE, g -> {
                type(g, "x");
                return g.number(to);
            });
            String held = text(furnished(), place);
            holds(h, "a fault", place, held);
            is("the tape is empty", h.number(to), -20);
            holds(h, "the end", place, held);
            is("the tape is empty", h.type('3', 1), 1);
        }
    }

    static void number(String text, int due, String holds) {
        Heaps h = new Heaps();
        is("number of '" + text + "'", read(h, text, 3), due);
        holds(h, "number of '" + text + "'", 3, holds);
        is("the tape is empty", h.type('3', 1), 1);
    }

    static void numberFigures() {
        sentence("Terms: A NUMBER is a TEXT: 1 to 80 figures");
        number("", -20, "told 0");
        number("7", 1, "7");
        number("0", 1, "0");
        number(nines(79), 79, nines(79));
        number(nines(80), 80, nines(80));
        number("1" + "0".repeat(79), 80, "1" + "0".repeat(79));
        number(nines(81), -100, "told 0");
        number(nines(100), -100, "told 0");
        for (int n = 1; n <= 80; n++) {
            number("1234567890".repeat(8).substring(0, n), n, "1234567890".repeat(8).substring(0, n));
        }
    }

    static void numberBlanks() {
        sentence("Terms: blanks do not count");
        number(" 7", 1, "7");
        number("7 ", 1, "7");
        number("1 2", 2, "12");
        number(" ".repeat(99) + "5", 1, "5");
        number("5" + " ".repeat(99), 1, "5");
        number(" ".repeat(20) + nines(80), 80, nines(80));
        number(nines(40) + " ".repeat(20) + nines(40), 80, nines(80));
        number(nines(80) + " ".repeat(20), 80, nines(80));
    }

    static void numberNoughts() {
        sentence("Terms: noughts ahead may be");
        number("00", 1, "0");
        number("01", 1, "1");
        number("0 0 7", 1, "7");
        number("0".repeat(80), 1, "0");
        number("0".repeat(79) + "6", 1, "6");
        number("0".repeat(40) + nines(40), 40, nines(40));
    }

    static void numberEightyFirst() {
        sentence("Terms: FAULTS: of a NUMBER an 81st figure, too");
        number("0".repeat(81), -100, "told 0");
        number("0".repeat(80) + "1", -100, "told 0");
        number(" " + nines(80) + "1", -101, "told 0");
        number(nines(80) + "   1", -103, "told 0");
        number("1".repeat(40) + "  " + "1".repeat(41), -102, "told 0");
        number(" ".repeat(19) + nines(81), -119, "told 0");
        number(nines(81) + "x", -100, "told 0");
        number(nines(80) + "x1", -100, "told 0");
    }

    static void numberFirstByte() {
        sentence("Terms: FAULTS: -20 less the place of the first byte that can't stand there");
        for (int b = 33; b <= 126; b++) {
            if (b < '0' || b > '9') {
                number((char) b + "1", -20, "told 0");
                number("1" + (char) b, -21, "told 0");
            }
        }
        number("  x", -22, "told 0");
        number("1 2 x", -24, "told 0");
        number("1x2y3", -21, "told 0");
        number(" ".repeat(99) + "x", -119, "told 0");
        number("-1", -20, "told 0");
        number("+1", -20, "told 0");
        number("1,2", -21, "told 0");
    }

    static void numberEnd() {
        sentence("Terms: FAULTS: the end: how many bytes there are");
        for (int n = 0; n <= 100; n++) {
            number(" ".repeat(n), -20 - n, "told 0");
        }
    }

    // ---- 8 figures, 9 nine

    static void figures() {
        sentence("8: How many figures a NUMBER has (1 of 0)");
        Heaps h = new Heaps();
        h.put(7, 1);
        h.put(1, 10);
        is("of nothing", h.figures(0), NULL);
        h.put(0, 0);
        is("of 0", h.figures(0), 1);
        for (int n = 1; n <= 216; n++) {
            is("of 10^" + (n - 1), h.figures(7), n);
            h.reckon(2, 7, 1, 7);
        }
        is("217 never came", h.figures(7), 216);
        refused("figures of the longest", 216, g -> g.figures(LONGEST));
        sentence("8: BAD; NULL; CAST");
        noPlace("figures", (g, x) -> g.figures(x));
        refused("figures", NULL, g -> g.figures(NOTHING));
        refused("figures", CAST, g -> g.figures(TRIANGLE));
        refused("figures", CAST, g -> g.figures(HEAP));
        is("of an emptied place", gives("empty", 1, 1 << SOME, g -> g.empty(SOME)).figures(SOME), NULL);
    }

    static void nine() {
        sentence("9: the i-th nine figures from its end (i 0 .. 23), as a number");
        outside("nine of i", 0, 23, (h, x) -> h.nine(LONGEST, x));
        StringBuilder figures = new StringBuilder();
        for (int i = 0; i < 24; i++) {
            figures.insert(0, 100_000_000 + 7 * i);
        }
        Heaps h = new Heaps();
        big(h, 0, figures.toString(), 1);
        h.put(1, 999_999_999);
        h.put(2, 1_000_000_000);
        h.put(3, 0);
        for (int i = 0; i < 24; i++) {
            is("nine " + i, h.nine(0, i), 100_000_000 + 7 * i);
            is("nine of 0", h.nine(3, i), 0);
            is("nine of 999999999", h.nine(1, i), i == 0 ? 999_999_999 : 0);
            is("nine of 10^9", h.nine(2, i), i == 1 ? 1 : 0);
        }
        h.put(0, 5);
        for (int i = 1; i < 24; i++) {
            is("nothing of a longer one stays", h.nine(0, i), 0);
        }
        sentence("9: BAD; NULL; CAST");
        noPlace("nine", (g, x) -> g.nine(x, 0));
        refused("nine", NULL, g -> g.nine(NOTHING, 0));
        refused("nine", NULL, g -> g.nine(NOTHING, 23));
        refused("nine", CAST, g -> g.nine(TRIANGLE, 0));
        refused("nine", CAST, g -> g.nine(HEAP, 23));
        sentence("9: BAD ahead of NULL, CAST");
        for (int place : new int[] {NOTHING, TRIANGLE, HEAP}) {
            refused("nine", BAD, g -> g.nine(place, 24));
            refused("nine", BAD, g -> g.nine(place, -1));
        }
    }

    // ---- 10 reckon

    static void reckonBad() {
        sentence("10: BAD");
        outside("reckon of what", 0, 4, (h, x) -> h.reckon(x, LONGEST, SEVEN, FREE));
        for (int what = 0; what <= 4; what++) {
            int asked = what;
            noPlace("reckon a", (h, x) -> h.reckon(asked, x, SEVEN, FREE));
            noPlace("reckon b", (h, x) -> h.reckon(asked, SEVEN, x, FREE));
            noPlace("reckon to", (h, x) -> h.reckon(asked, SEVEN, SEVEN, x));
        }
        sentence("10: BAD ahead of NULL, CAST, NOT, ZERO, FULL");
        noPlace("reckon of nothing", (h, x) -> h.reckon(0, NOTHING, SEVEN, x));
        noPlace("reckon of nothing", (h, x) -> h.reckon(0, SEVEN, NOTHING, x));
        noPlace("reckon of nothing", (h, x) -> h.reckon(0, NOTHING, x, FREE));
        noPlace("reckon of a shape", (h, x) -> h.reckon(0, HEAP, SEVEN, x));
        noPlace("reckon of a shape", (h, x) -> h.reckon(0, HEAP, x, FREE));
        noPlace("reckon below 0", (h, x) -> h.reckon(1, NOUGHT, SEVEN, x));
        noPlace("reckon by 0", (h, x) -> h.reckon(3, SEVEN, NOUGHT, x));
        noPlace("reckon of too many figures", (h, x) -> h.reckon(2, LONGEST, LONGEST, x));
        outside("reckon of what and nothing", 0, 4, (h, x) -> h.reckon(x, NOTHING, HEAP, FREE));
        outside("reckon of what and a shape", 0, 4, (h, x) -> h.reckon(x, HEAP, NOUGHT, FREE));
    }

    static void reckonAsksPlaces() {
        sentence("10, Terms: in the order in which they are named, each for NULL, then CAST");
        for (int what = 0; what <= 4; what++) {
            int asked = what;
            twoPlaces("reckon " + what, NULL, CAST, (h, a, b) -> h.reckon(asked, a, b, SEVEN));
            for (int to = 0; to < 8; to++) {
                int answer = to;
                String due = new String[] {"43", "29", "252", "5", "1"}[what];
                givesNumber("what the answer's place holds does not count", due, to, h -> h.reckon(asked, SOME, SEVEN, answer));
            }
        }
        sentence("10: NULL, CAST ahead of NOT, ZERO, FULL");
        refused("0 less nothing", NULL, h -> h.reckon(1, NOUGHT, NOTHING, FREE));
        refused("0 less a shape", CAST, h -> h.reckon(1, NOUGHT, HEAP, FREE));
        refused("nothing by 0", NULL, h -> h.reckon(3, NOTHING, NOUGHT, FREE));
        refused("a shape by 0", CAST, h -> h.reckon(3, HEAP, NOUGHT, FREE));
        refused("nothing's rest by 0", NULL, h -> h.reckon(4, NOTHING, NOUGHT, FREE));
        refused("a shape's rest by 0", CAST, h -> h.reckon(4, HEAP, NOUGHT, FREE));
        refused("the longest and nothing", NULL, h -> h.reckon(0, LONGEST, NOTHING, FREE));
        refused("the longest times a shape", CAST, h -> h.reckon(2, LONGEST, HEAP, FREE));
    }

    static void reckon(String what, String a, String b, int refused) {
        int sign = "+-*/%".indexOf(what);
        Heaps h = new Heaps();
        big(h, 0, a, 7);
        big(h, 1, b, 7);
        h.put(2, 85);
        is(a + what + b, h.reckon(sign, 0, 1, 2), refused);
        holds(h, a + what + b + " changes nothing", 2, "85");
        holds(h, a + what + b + " changes nothing", 0, a);
        holds(h, a + what + b + " changes nothing", 1, b);
    }

    static void reckonGives(String what, String a, String b, String due) {
        int sign = "+-*/%".indexOf(what);
        Heaps h = new Heaps();
        big(h, 0, a, 7);
        big(h, 1, b, 7);
        is(a + what + b, h.reckon(sign, 0, 1, 2), due.length());
        holds(h, a + what + b, 2, due);
        holds(h, a + what + b + " asked", 0, a);
        holds(h, a + what + b + " asked", 1, b);
    }

    static void reckonNot() {
        sentence("10: NOT: it would be below 0");
        reckonGives("-", "0", "0", "0");
        reckonGives("-", "1", "1", "0");
        reckonGives("-", "1", "0", "1");
        reckon("-", "0", "1", NOT);
        reckon("-", "7", "8", NOT);
        reckonGives("-", ten(9), nines(9), "1");
        reckon("-", nines(9), ten(9), NOT);
        reckonGives("-", nines(216), nines(216), "0");
        reckonGives("-", nines(216), nines(215) + "8", "1");
        reckon("-", nines(215) + "8", nines(216), NOT);
        reckon("-", "8" + nines(215), "9" + "0".repeat(215), NOT);
        reckonGives("-", "9" + "0".repeat(215), "8" + nines(215), "1");
        reckonGives("-", ten(215), "1", nines(215));
        reckon("-", "1", ten(215), NOT);
        reckonGives("+", "0", "1", "1");
        reckonGives("*", "0", "1", "0");
    }

    static void reckonZero() {
        sentence("10: ZERO (by 0)");
        reckon("/", "7", "0", ZERO);
        reckon("%", "7", "0", ZERO);
        reckon("/", "0", "0", ZERO);
        reckon("%", "0", "0", ZERO);
        reckon("/", nines(216), "0", ZERO);
        reckon("%", nines(216), "0", ZERO);
        reckonGives("/", "0", "1", "0");
        reckonGives("%", "0", "1", "0");
        reckonGives("/", nines(216), "1", nines(216));
        reckonGives("%", nines(216), "1", "0");
        reckonGives("+", "7", "0", "7");
        reckonGives("-", "7", "0", "7");
        reckonGives("*", "7", "0", "0");
        reckonGives("*", nines(216), "0", "0");
        reckonGives("*", "0", nines(216), "0");
    }

    static void reckonFull() {
        sentence("10, Terms: of 216 figures at most: what would have more is FULL");
        reckonGives("+", nines(216), "0", nines(216));
        reckonGives("+", nines(215) + "8", "1", nines(216));
        reckon("+", nines(216), "1", FULL);
        reckon("+", "1", nines(216), FULL);
        reckon("+", "5" + "0".repeat(215), "5" + "0".repeat(215), FULL);
        reckonGives("+", "5" + "0".repeat(215), "4" + nines(215), nines(216));
        reckon("+", nines(216), nines(216), FULL);
        reckonGives("*", nines(216), "1", nines(216));
        reckon("*", nines(216), "2", FULL);
        reckonGives("*", "5" + "0".repeat(214), "19", "95" + "0".repeat(214));
        reckon("*", "5" + "0".repeat(214), "20", FULL);
        reckonGives("*", ten(108), ten(107), ten(215));
        reckon("*", ten(108), ten(108), FULL);
        reckonGives("*", nines(108), "1" + "0".repeat(107) + "1", nines(216));
        reckonGives("*", nines(108), nines(108), nines(107) + "8" + "0".repeat(107) + "1");
        reckon("*", ten(215), ten(1), FULL);
        reckon("*", nines(216), nines(216), FULL);
        reckonGives("/", nines(216), nines(216), "1");
        reckonGives("%", nines(216), ten(215), nines(215));
    }

    static void reckonFullAtEachLimb() {
        sentence("10: a carry into a next nine figures");
        for (int figures = 1; figures < 216; figures++) {
            reckonGives("+", nines(figures), "1", ten(figures));
            reckonGives("-", ten(figures), "1", nines(figures));
        }
    }

    static void reckonCut() {
        sentence("10, Terms: Divisions are cut");
        reckonGives("/", "7", "2", "3");
        reckonGives("%", "7", "2", "1");
        reckonGives("/", "6", "7", "0");
        reckonGives("%", "6", "7", "6");
        reckonGives("/", "7", "7", "1");
        reckonGives("%", "7", "7", "0");
        reckonGives("/", nines(216), ten(108), nines(108));
        reckonGives("%", nines(216), ten(108), nines(108));
        reckonGives("/", nines(215) + "8", nines(216), "0");
        reckonGives("%", nines(215) + "8", nines(216), nines(215) + "8");
        reckonGives("/", nines(216), ten(215), "9");
        for (int figures = 9; figures < 216; figures += 23) {
            BigInteger b = new BigInteger(nines(figures / 2 + 1));
            BigInteger a = new BigInteger(ten(figures));
            for (int i = -1; i <= 1; i++) {
                BigInteger near = a.divide(b).multiply(b).add(BigInteger.valueOf(i));
                reckonGives("/", near.toString(), b.toString(), near.divide(b).toString());
                reckonGives("%", near.toString(), b.toString(), near.mod(b).toString());
            }
        }
    }

    static void reckonBehindLonger() {
        sentence("10: nothing of a longer reckoning before stays");
        BigInteger[] numbers = {BigInteger.ZERO, BigInteger.ONE, BigInteger.valueOf(7), new BigInteger(nines(9)), new BigInteger(ten(9)),
            new BigInteger(nines(17)), new BigInteger("5" + "0".repeat(17)), new BigInteger("4" + nines(26)), new BigInteger(ten(90)),
            new BigInteger(nines(100)), new BigInteger("5" + "0".repeat(170) + "1"), new BigInteger(nines(216))};
        for (int i = numbers.length - 1; i >= 0; i--) {
            for (int j = numbers.length - 1; j >= 1; j--) {
                Heaps h = new Heaps();
                big(h, 0, numbers[numbers.length - 1], 7);
                big(h, 1, numbers[j], 7);
                h.reckon(3, 0, 1, 2);
                h.reckon(4, 0, 1, 2);
                h.reckon(2, 1, 1, 2);
                h.put(3, 7);
                h.reckon(3, 0, 3, 2);
                big(h, 0, numbers[i], 7);
                BigInteger[] due = numbers[i].divideAndRemainder(numbers[j]);
                is(numbers[i] + "/" + numbers[j], h.reckon(3, 0, 1, 2), due[0].toString().length());
                holds(h, numbers[i] + "/" + numbers[j], 2, due[0].toString());
                is(numbers[i] + "%" + numbers[j], h.reckon(4, 0, 1, 2), due[1].toString().length());
                holds(h, numbers[i] + "%" + numbers[j], 2, due[1].toString());
            }
        }
    }

    /** Numbers of nines, noughts and halves: there a guess at nine figures of a quotient is too high. */
    static void reckonLongQuotients() {
        sentence("10: a by b, cut, and the rest of that, of many figures");
        String[] nine = {"000000000", "999999999", "000000001", "500000000", "499999999", "999999998", "500000001"};
        int n = nine.length;
        Heaps h = new Heaps();
        for (int i = 0; i < n * n * n * n; i++) {
            String a = nine[i % n] + nine[i / n % n] + nine[i * 3 % n] + nine[i / n / n % n] + nine[i * 5 / n % n];
            String b = nine[i / n / n / n] + nine[(i + 2) % n] + nine[i / 5 % n];
            BigInteger[] two = {new BigInteger(a), new BigInteger(b)};
            h = h.left() < 40 ? new Heaps() : h;
            read(h, a, 0);
            read(h, b, 1);
            BigInteger[] due = two[1].signum() == 0 ? null : two[0].divideAndRemainder(two[1]);
            is(a + "/" + b, h.reckon(3, 0, 1, 2), due == null ? ZERO : due[0].toString().length());
            is(a + "%" + b, h.reckon(4, 0, 1, 3), due == null ? ZERO : due[1].toString().length());
            if (due != null) {
                holds(h, a + "/" + b, 2, due[0].toString());
                holds(h, a + "%" + b, 3, due[1].toString());
            }
        }
    }

    static void reckonInPlace() {
        sentence("10, Terms: it may be one of those asked");
        String[] due = {"43", "29", "252", "5", "1"};
        String[] twice = {"72", "0", "1296", "1", "0"};
        for (int what = 0; what <= 4; what++) {
            int asked = what;
            holds(givesNumber("to a", due[what], SOME, h -> h.reckon(asked, SOME, SEVEN, SOME)), "b", SEVEN, "7");
            holds(givesNumber("to b", due[what], SEVEN, h -> h.reckon(asked, SOME, SEVEN, SEVEN)), "a", SOME, "36");
            givesNumber("to both", twice[what], SOME, h -> h.reckon(asked, SOME, SOME, SOME));
            givesNumber("of one", twice[what], FREE, h -> h.reckon(asked, SOME, SOME, FREE));
        }
        refused("the longest and itself", FULL, h -> h.reckon(0, LONGEST, LONGEST, LONGEST));
        refused("the longest times itself", FULL, h -> h.reckon(2, LONGEST, LONGEST, LONGEST));
        refused("0 by itself", ZERO, h -> h.reckon(3, NOUGHT, NOUGHT, NOUGHT));
        refused("7 less the longest", NOT, h -> h.reckon(1, SEVEN, LONGEST, SEVEN));
    }

    static void reckonLongInPlace() {
        sentence("10, Terms: it may be one of those asked, of many figures");
        BigInteger a = new BigInteger("9876543210".repeat(10));
        BigInteger b = new BigInteger("12345678999999999".repeat(5));
        BigInteger[] due = {a.add(b), a.subtract(b), a.multiply(b), a.divide(b), a.mod(b)};
        BigInteger[] twice = {a.add(a), BigInteger.ZERO, a.multiply(a), BigInteger.ONE, BigInteger.ZERO};
        for (int what = 0; what <= 4; what++) {
            for (int to = 0; to < 3; to++) {
                Heaps h = new Heaps();
                big(h, 0, a, 7);
                big(h, 1, b, 7);
                is("reckon " + what + " to " + to, h.reckon(what, 0, 1, to), due[what].toString().length());
                holds(h, "reckon " + what, to, due[what].toString());
                holds(h, "asked", 0, to == 0 ? due[what].toString() : a.toString());
                holds(h, "asked", 1, to == 1 ? due[what].toString() : b.toString());
                big(h, 0, a, 7);
                is("twice", h.reckon(what, 0, 0, to == 2 ? 2 : 0), twice[what].toString().length());
                holds(h, "twice", to == 2 ? 2 : 0, twice[what].toString());
            }
        }
    }

    // ---- 11 root

    static void rootBad() {
        sentence("11: BAD; NULL; CAST");
        noPlace("root a", (h, x) -> h.root(x, FREE));
        noPlace("root to", (h, x) -> h.root(SOME, x));
        noPlace("root to, of nothing", (h, x) -> h.root(NOTHING, x));
        noPlace("root to, of a shape", (h, x) -> h.root(HEAP, x));
        for (int to = 0; to < 8; to++) {
            int answer = to;
            refused("root of nothing", NULL, h -> h.root(NOTHING, answer));
            refused("root of a triangle", CAST, h -> h.root(TRIANGLE, answer));
            refused("root of a heap", CAST, h -> h.root(HEAP, answer));
            givesNumber("6", 1, "6", answer, h -> h.root(SOME, answer));
        }
    }

    static void root(BigInteger v, BigInteger due, int square) {
        Heaps h = new Heaps();
        big(h, 0, v, 7);
        is("root of " + v, h.root(0, 1), square);
        holds(h, "root of " + v, 1, due.toString());
        holds(h, "root of " + v + " asked", 0, v.toString());
    }

    static void rootCut() {
        sentence("11: The root of a NUMBER, cut: whether it was a square (1, 0)");
        root(BigInteger.ZERO, BigInteger.ZERO, 1);
        root(BigInteger.ONE, BigInteger.ONE, 1);
        root(BigInteger.valueOf(2), BigInteger.ONE, 0);
        root(BigInteger.valueOf(3), BigInteger.ONE, 0);
        for (int figures = 1; figures <= 108; figures++) {
            for (String text : new String[] {nines(figures), ten(figures - 1), "5" + "0".repeat(figures - 1)}) {
                BigInteger n = new BigInteger(text);
                BigInteger square = n.multiply(n);
                root(square, n, 1);
                root(square.subtract(BigInteger.ONE), n.subtract(BigInteger.ONE), n.equals(BigInteger.ONE) ? 1 : 0);
                root(square.add(BigInteger.ONE), n, 0);
                root(square.add(n).add(n), n, 0);
            }
        }
        root(LIMIT.subtract(BigInteger.ONE), new BigInteger(nines(108)), 0);
    }

    static void rootInPlace() {
        sentence("11, Terms: it may be one of those asked");
        givesNumber("of 36", 1, "6", SOME, h -> h.root(SOME, SOME));
        givesNumber("of 0", 1, "0", NOUGHT, h -> h.root(NOUGHT, NOUGHT));
        givesNumber("of 7", 0, "2", SEVEN, h -> h.root(SEVEN, SEVEN));
        givesNumber("of the longest", 0, nines(108), LONGEST, h -> h.root(LONGEST, LONGEST));
    }

    // ---- 12 order

    static void orderRefused() {
        sentence("12: BAD; NULL; CAST");
        noPlace("order a", (h, x) -> h.order(x, SEVEN));
        noPlace("order b", (h, x) -> h.order(SEVEN, x));
        noPlace("order b, of nothing", (h, x) -> h.order(NOTHING, x));
        noPlace("order b, of a shape", (h, x) -> h.order(HEAP, x));
        noPlace("order a, with nothing", (h, x) -> h.order(x, NOTHING));
        noPlace("order a, with a shape", (h, x) -> h.order(x, HEAP));
        twoPlaces("order", NULL, CAST, (h, a, b) -> h.order(a, b));
    }

    static void order(String less, String more) {
        Heaps h = new Heaps();
        big(h, 0, less, 7);
        big(h, 6, more, 7);
        big(h, 1, more, 7);
        is(more + " to " + less, h.order(6, 0), 1);
        is(less + " to " + more, h.order(0, 6), 2);
        is(more + " to itself", h.order(6, 6), 0);
        is(more + " to its like", h.order(1, 6), 0);
        is(more + " to its like", h.order(6, 1), 0);
    }

    static void order() {
        sentence("12: 1 the first is more, 0 like, 2 less");
        order("0", "1");
        order("9", "10");
        order(nines(9), ten(9));
        order(ten(9), "1" + "0".repeat(8) + "1");
        order("1" + nines(9), "2" + "0".repeat(9));
        order(nines(215) + "8", nines(216));
        order("8" + nines(215), "9" + "0".repeat(215));
        order(nines(215), ten(215));
        order("0", nines(216));
        refused("order changes nothing", 1, h -> h.order(LONGEST, SOME));
        refused("order changes nothing", 0, h -> h.order(NOUGHT, NOUGHT));
        refused("order changes nothing", 2, h -> h.order(SEVEN, SOME));
        for (int figures = 1; figures < 216; figures++) {
            if (figures % 9 < 2) {
                order(nines(figures), ten(figures));
            }
        }
    }

    // ---- 13 nth, 14 which

    static void nthBad() {
        sentence("13: BAD; NULL; CAST");
        noPlace("nth shape", (h, x) -> h.nth(x, SEVEN, FREE));
        noPlace("nth n", (h, x) -> h.nth(HEAP, x, FREE));
        noPlace("nth to", (h, x) -> h.nth(HEAP, SEVEN, x));
        noPlace("nth to, of nothing", (h, x) -> h.nth(NOTHING, SEVEN, x));
        noPlace("nth to, of no shape", (h, x) -> h.nth(SEVEN, SEVEN, x));
        noPlace("nth to, of the nothing-th", (h, x) -> h.nth(HEAP, NOTHING, x));
        noPlace("nth to, of too many figures", (h, x) -> h.nth(HEAP, LONGEST, x));
        noPlace("nth n, of nothing", (h, x) -> h.nth(NOTHING, x, FREE));
        noPlace("nth n, of no shape", (h, x) -> h.nth(SEVEN, x, FREE));
        shapeAndNumber("nth", (h, shape, n) -> h.nth(shape, n, SEVEN));
    }

    static void whichBad() {
        sentence("14: BAD; NULL; CAST");
        noPlace("which shape", (h, x) -> h.which(x, SOME, FREE));
        noPlace("which a", (h, x) -> h.which(TRIANGLE, x, FREE));
        noPlace("which to", (h, x) -> h.which(TRIANGLE, SOME, x));
        noPlace("which to, of no such number", (h, x) -> h.which(TRIANGLE, SEVEN, x));
        noPlace("which to, of nothing", (h, x) -> h.which(NOTHING, SOME, x));
        noPlace("which to, of no shape", (h, x) -> h.which(SOME, SOME, x));
        noPlace("which to, nothing", (h, x) -> h.which(TRIANGLE, NOTHING, x));
        noPlace("which a, of nothing", (h, x) -> h.which(NOTHING, x, FREE));
        noPlace("which a, of no shape", (h, x) -> h.which(SOME, x, FREE));
        shapeAndNumber("which", (h, shape, a) -> h.which(shape, a, SEVEN));
    }

    /** The first is asked for a shape, the second for a number. */
    static void shapeAndNumber(String call, CallOfTwo asking) {
        sentence(call + ", Terms: in the order in which they are named, each for NULL, then CAST");
        int[] shapes = {TRIANGLE, HEAP};
        int[] numbers = {SOME, NOUGHT, LONGEST, SEVEN};
        for (int number : numbers) {
            refused(call + " of nothing", NULL, h -> asking.on(h, NOTHING, number));
            refused(call + " of a number", CAST, h -> asking.on(h, number, SEVEN));
            refused(call + " of a number, nothing", CAST, h -> asking.on(h, number, NOTHING));
            refused(call + " of a number, a shape", CAST, h -> asking.on(h, number, HEAP));
        }
        for (int shape : shapes) {
            refused(call + " of a shape, nothing", NULL, h -> asking.on(h, shape, NOTHING));
            refused(call + " of a shape, a shape", CAST, h -> asking.on(h, shape, TRIANGLE));
            refused(call + " of a shape, a shape", CAST, h -> asking.on(h, shape, HEAP));
            refused(call + " of nothing, a shape", NULL, h -> asking.on(h, NOTHING, shape));
        }
        refused(call + " of nothing, nothing", NULL, h -> asking.on(h, NOTHING, FREE));
    }

    static void term(int kind, int k, String n, String due) {
        Heaps h = new Heaps();
        h.shape(7, kind, k);
        big(h, 0, n, 1);
        is("nth " + kind + " " + k + " " + n, h.nth(7, 0, 2), due.length());
        holds(h, "nth " + kind + " " + k + " " + n, 2, due);
        is("which " + kind + " " + k + " " + due, h.which(7, 2, 3), 1);
        holds(h, "which " + kind + " " + k + " " + due, 3, n);
        holds(h, "asked", 2, due);
        is("the shape stays", h.told(7), 2 + kind);
    }

    static int mostOf(int kind) {
        return kind < 3 ? 0 : 99;
    }

    static void nthFirst() {
        sentence("13, 14, Terms: SHAPES, their n-th (n 0 or more), k 3 .. 99");
        for (int kind = 0; kind < 5; kind++) {
            for (int k = kind < 3 ? 0 : 3; k <= mostOf(kind); k++) {
                long heap = 0;
                for (int n = 0; n < 6; n++) {
                    long corner = n == 0 ? 0 : 1 + (n - 1) + (long) (k - 2) * n * (n - 1) / 2;
                    heap += corner;
                    long[] due = {n * n, n * (n + 1) / 2, n * (n + 1), corner, heap};
                    term(kind, k, "" + n, "" + due[kind]);
                }
            }
        }
    }

    static void nthLikeShapes() {
        sentence("Terms: of 3: TRIANGLES, of 4: SQUARES");
        for (int n = 0; n < 60; n++) {
            term(3, 3, "" + n, "" + n * (n + 1) / 2);
            term(3, 4, "" + n, "" + n * n);
        }
    }

    static void nthFull() {
        sentence("13: FULL; 14: the longest");
        for (int kind = 0; kind < 5; kind++) {
            for (int k : kind < 3 ? new int[] {0} : new int[] {3, 4, 5, 6, 7, 8, 50, 98, 99}) {
                BigInteger last = lastThatFits(kind, k);
                BigInteger longest = term(kind, k, last);
                term(kind, k, last.toString(), longest.toString());
                term(kind, k, last.subtract(BigInteger.ONE).toString(), term(kind, k, last.subtract(BigInteger.ONE)).toString());
                noneOf(kind, k, longest.subtract(BigInteger.ONE));
                if (longest.add(BigInteger.ONE).compareTo(LIMIT) < 0) {
                    noneOf(kind, k, longest.add(BigInteger.ONE));
                    noneOf(kind, k, LIMIT.subtract(BigInteger.ONE));
                }
                full(kind, k, last.add(BigInteger.ONE));
                full(kind, k, BigInteger.TEN.pow(kind < 4 ? 109 : 73));
                full(kind, k, BigInteger.TEN.pow(117));
                full(kind, k, BigInteger.TEN.pow(144));
                full(kind, k, LIMIT.subtract(BigInteger.ONE));
            }
        }
    }

    static void full(int kind, int k, BigInteger n) {
        Heaps h = new Heaps();
        h.shape(7, kind, k);
        big(h, 0, n, 1);
        h.put(2, 85);
        is("nth " + kind + " " + k + " " + n, h.nth(7, 0, 2), FULL);
        holds(h, "FULL changes nothing", 2, "85");
        is("FULL into n's own place", h.nth(7, 0, 0), FULL);
        holds(h, "FULL changes nothing", 0, n.toString());
        is("FULL into the shape's own place", h.nth(7, 0, 7), FULL);
        is("FULL changes nothing", h.told(7), 2 + kind);
    }

    static void noneOf(int kind, int k, BigInteger v) {
        Heaps h = new Heaps();
        h.shape(7, kind, k);
        big(h, 0, v, 1);
        h.put(2, 85);
        is("which " + kind + " " + k + " " + v, h.which(7, 0, 2), 0);
        holds(h, "nothing comes", 2, "85");
        is("into a's own place", h.which(7, 0, 0), 0);
        holds(h, "nothing comes", 0, v.toString());
        is("into the shape's own place", h.which(7, 0, 7), 0);
        is("nothing comes", h.told(7), 2 + kind);
    }

    static void whichBetween() {
        sentence("14: Whether a NUMBER is of a SHAPE (1, 0): if so, which comes to a PLACE");
        for (int kind = 0; kind < 5; kind++) {
            for (int k : kind < 3 ? new int[] {0} : new int[] {3, 4, 5, 6, 99}) {
                for (int figures : new int[] {1, 5, 9, 10, 18, 19, 60, 70}) {
                    BigInteger n = new BigInteger(nines(figures));
                    term(kind, k, n.toString(), term(kind, k, n).toString());
                    noneOf(kind, k, term(kind, k, n).add(BigInteger.ONE));
                    noneOf(kind, k, term(kind, k, n).subtract(BigInteger.ONE));
                    n = n.add(BigInteger.ONE);
                    term(kind, k, n.toString(), term(kind, k, n).toString());
                    noneOf(kind, k, term(kind, k, n).add(BigInteger.ONE));
                    noneOf(kind, k, term(kind, k, n).subtract(BigInteger.ONE));
                }
            }
        }
        noneOf(0, 0, BigInteger.TWO);
        noneOf(1, 0, BigInteger.TWO);
        noneOf(2, 0, BigInteger.ONE);
        noneOf(3, 99, BigInteger.TWO);
        noneOf(4, 99, BigInteger.valueOf(99));
        refused("which changes nothing", 0, h -> h.which(TRIANGLE, SEVEN, SEVEN));
        refused("which changes nothing", 0, h -> h.which(HEAP, SEVEN, HEAP));
    }

    static void nthLongInPlace() {
        sentence("13, 14, Terms: it may be one of those asked, of many figures");
        for (int kind = 0; kind < 5; kind++) {
            int k = kind < 3 ? 0 : 77;
            BigInteger n = new BigInteger("9876543210".repeat(6));
            BigInteger due = term(kind, k, n);
            for (int to : new int[] {0, 7}) {
                Heaps h = new Heaps();
                h.shape(7, kind, k);
                big(h, 0, n, 1);
                is("nth " + kind, h.nth(7, 0, to), due.toString().length());
                holds(h, "nth " + kind, to, due.toString());
                h.shape(7, kind, k);
                big(h, 0, due, 1);
                is("which " + kind, h.which(7, 0, to), 1);
                holds(h, "which " + kind, to, n.toString());
            }
        }
    }

    static void nthInPlace() {
        sentence("13, 14, Terms: it may be one of those asked");
        givesNumber("nth into the shape's", "196", HEAP, h -> h.nth(HEAP, SEVEN, HEAP));
        givesNumber("nth into n's", "196", SEVEN, h -> h.nth(HEAP, SEVEN, SEVEN));
        givesNumber("which into the shape's", 1, "8", TRIANGLE, h -> h.which(TRIANGLE, SOME, TRIANGLE));
        givesNumber("which into a's", 1, "8", SOME, h -> h.which(TRIANGLE, SOME, SOME));
        for (int to = 0; to < 8; to++) {
            int answer = to;
            givesNumber("nth of 0", "0", to, h -> h.nth(HEAP, NOUGHT, answer));
            givesNumber("which of 0", 1, "0", to, h -> h.which(HEAP, NOUGHT, answer));
        }
    }

    public static void main(String[] args) {
        newObjectHoldsNothing();
        objectsShareNothing();
        putPlaces();
        putNumbers();
        putTellsFigures();
        putReplaces();
        shapePlaces();
        shapeKinds();
        shapeCorners();
        shapeNoCorners();
        shapeReplaces();
        emptyPlaces();
        toldPlaces();
        typeCounts();
        typeBytes();
        typeHigherBytes();
        typeFull();
        typeBadAheadOfFull();
        numberBad();
        numberComes();
        numberFaultLeavesNoTape();
        numberFigures();
        numberBlanks();
        numberNoughts();
        numberEightyFirst();
        numberFirstByte();
        numberEnd();
        figures();
        nine();
        reckonBad();
        reckonAsksPlaces();
        reckonNot();
        reckonZero();
        reckonFull();
        reckonFullAtEachLimb();
        reckonCut();
        reckonBehindLonger();
        reckonLongQuotients();
        reckonInPlace();
        reckonLongInPlace();
        rootBad();
        rootCut();
        rootInPlace();
        orderRefused();
        order();
        nthBad();
        whichBad();
        nthFirst();
        nthLikeShapes();
        nthFull();
        whichBetween();
        nthInPlace();
        nthLongInPlace();
        end("PlacesBoundaryTest");
    }
}
