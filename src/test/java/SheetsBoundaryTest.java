import java.math.BigInteger;

/** Promises 34 to 38: each sentence that names a boundary case has a test of its own. */
public class SheetsBoundaryTest extends Boundaries {
    // the sheets of a furnished object: 3 shorts (the second below 0), 24 ints, no longs, nothing
    static final int SHORTS = 0, INTS = 1, EMPTY = 2, NO_SHEET = 3;

    /** What is no sheet, 0 .. 3, and what is no lane, 0 .. 2, is BAD. */
    static void noSheet(String call, CallWith asking) {
        outside(call + " of a sheet", 0, 3, asking);
    }

    static void noLane(String call, CallWith asking) {
        outside(call + " of a lane", 0, 2, asking);
    }

    /** Where item i is asked for in a row of n, all that lies outside is INDEX. */
    static void noIndex(String call, int n, CallWith asking) {
        for (int i : new int[] {-1, -2, n, n + 1, 24, LEAST, LEAST + 1, MOST, MOST - 1, 1 << 16, 1 << 30, -1 << 16}) {
            refused(call + " " + i, INDEX, h -> asking.on(h, i));
        }
    }

    /** A row of a lane with these items. */
    static Heaps row(int sheet, int lane, long... items) {
        Heaps h = new Heaps();
        is("sheet", h.sheet(sheet, lane, items.length), items.length);
        for (int i = 0; i < items.length; i++) {
            is("item", h.item(sheet, lane, i, items[i]), 1);
        }
        return h;
    }

    // ---- 34 heap

    static void heapBad() {
        sentence("34: BAD");
        noSheet("heap", (h, x) -> h.heap(x, 1, 0, 1, FREE));
        noLane("heap", (h, x) -> h.heap(INTS, x, 0, 1, FREE));
        outside("heap of n", 1, 24, (h, x) -> h.heap(INTS, 1, 0, x, FREE));
        refused("heap of n 0", BAD, h -> h.heap(INTS, 1, 0, 0, FREE));
        noPlace("heap to", (h, x) -> h.heap(INTS, 1, 0, 1, x));
        sentence("34: BAD ahead of NULL, CAST, INDEX, NOT");
        for (int sheet = 0; sheet < 4; sheet++) {
            int asked = sheet;
            noLane("heap", (h, x) -> h.heap(asked, x, 0, 1, FREE));
            noLane("heap behind the last", (h, x) -> h.heap(asked, x, 24, 1, FREE));
            outside("heap of n", 1, 24, (h, x) -> h.heap(asked, 0, 1, x, FREE));
            noPlace("heap to", (h, x) -> h.heap(asked, 0, 1, 1, x));
            noPlace("heap to", (h, x) -> h.heap(asked, 2, 30, 24, x));
        }
    }

    static void heapRefused() {
        sentence("34: NULL");
        for (int lane = 0; lane < 3; lane++) {
            int asked = lane;
            refused("heap", NULL, h -> h.heap(NO_SHEET, asked, 0, 1, SOME));
            refused("NULL ahead of INDEX", NULL, h -> h.heap(NO_SHEET, asked, -1, 24, SOME));
            refused("NULL ahead of INDEX", NULL, h -> h.heap(NO_SHEET, asked, MOST, 1, SOME));
        }
        sentence("34: CAST (of SHEETS another LANE)");
        for (int sheet = 0; sheet < 3; sheet++) {
            for (int lane = 0; lane < 3; lane++) {
                int askedSheet = sheet;
                int askedLane = lane;
                if (sheet != lane) {
                    refused("heap", CAST, h -> h.heap(askedSheet, askedLane, 0, 1, SOME));
                    refused("CAST ahead of INDEX", CAST, h -> h.heap(askedSheet, askedLane, -1, 1, SOME));
                    refused("CAST ahead of INDEX", CAST, h -> h.heap(askedSheet, askedLane, 24, 1, SOME));
                    refused("CAST ahead of NOT", CAST, h -> h.heap(askedSheet, askedLane, 1, 1, SOME));
                }
            }
        }
    }

    static void heapIndex() {
        sentence("34: INDEX: n items from one on");
        for (int n : new int[] {1, 2, 24}) {
            noIndex("heap of " + n + " shorts from", 3, (h, x) -> h.heap(SHORTS, 0, x, n, SOME));
            noIndex("heap of " + n + " ints from", 24, (h, x) -> h.heap(INTS, 1, x, n, SOME));
            noIndex("heap of " + n + " of no longs from", 0, (h, x) -> h.heap(EMPTY, 2, x, n, SOME));
        }
        for (int n = 1; n <= 24; n++) {
            int asked = n;
            refused("one too many of " + n, INDEX, h -> h.heap(INTS, 1, 25 - asked, asked, SOME));
            givesNumber("as many as there are", n < 24 ? "70" : "130", SOME, h -> h.heap(INTS, 1, 24 - asked, asked, SOME));
        }
        givesNumber("the first", "60", SOME, h -> h.heap(INTS, 1, 0, 1, SOME));
        givesNumber("all but the last", "60", SOME, h -> h.heap(INTS, 1, 0, 23, SOME));
        sentence("34: INDEX ahead of NOT");
        refused("one below 0 and one too many", INDEX, h -> h.heap(SHORTS, 0, 0, 4, SOME));
        refused("one below 0 and one too many", INDEX, h -> h.heap(SHORTS, 0, 1, 3, SOME));
    }

    static void heapNot() {
        sentence("34: NOT: one is below 0");
        refused("it alone", NOT, h -> h.heap(SHORTS, 0, 1, 1, SOME));
        refused("the first", NOT, h -> h.heap(SHORTS, 0, 1, 2, SOME));
        refused("the last", NOT, h -> h.heap(SHORTS, 0, 0, 2, SOME));
        refused("between", NOT, h -> h.heap(SHORTS, 0, 0, 3, SOME));
        givesNumber("beside it", "5", SOME, h -> h.heap(SHORTS, 0, 0, 1, SOME));
        givesNumber("beside it", "7", SOME, h -> h.heap(SHORTS, 0, 2, 1, SOME));
        for (int lane = 0; lane < 3; lane++) {
            long least = lane == 0 ? Short.MIN_VALUE : lane == 1 ? LEAST : Long.MIN_VALUE;
            Heaps h = row(0, lane, 0, -1, 0, least, 0);
            is("0 may be", h.heap(0, lane, 0, 1, 0), 1);
            is("-1", h.heap(0, lane, 1, 1, 1), NOT);
            is("the least", h.heap(0, lane, 3, 1, 1), NOT);
            is("both", h.heap(0, lane, 0, 5, 1), NOT);
            holds(h, "nothing comes", 1, "told 0");
            is("between", h.heap(0, lane, 2, 1, 1), 1);
        }
    }

    static void heapSums() {
        sentence("34: n items (1 .. 24; each 0 or more) together come to a PLACE: how many figures");
        for (int lane = 0; lane < 3; lane++) {
            long most = lane == 0 ? Short.MAX_VALUE : lane == 1 ? MOST : Long.MAX_VALUE;
            long[] items = new long[24];
            for (int i = 0; i < 24; i++) {
                items[i] = most;
            }
            Heaps h = row(3, lane, items);
            for (int n = 1; n <= 24; n++) {
                String due = BigInteger.valueOf(most).multiply(BigInteger.valueOf(n)).toString();
                is("heap of " + n, h.heap(3, lane, 24 - n, n, 7), due.length());
                holds(h, "heap of " + n, 7, due);
            }
        }
        Heaps h = row(0, 2, 0, 999_999_999, 1, 999_999_999_999_999_999L, 1);
        is("of 0", h.heap(0, 2, 0, 1, 0), 1);
        holds(h, "of 0", 0, "0");
        is("a carry", h.heap(0, 2, 1, 2, 0), 10);
        holds(h, "a carry", 0, "1000000000");
        is("a carry", h.heap(0, 2, 3, 2, 0), 19);
        holds(h, "a carry", 0, "1000000000000000000");
        sentence("34, Terms: An answer comes to a PLACE, whatever it holds");
        for (int to = 0; to < 8; to++) {
            int answer = to;
            givesNumber("heap", "60", to, g -> g.heap(INTS, 1, 0, 2, answer));
            givesNumber("heap", "0", to, g -> g.heap(INTS, 1, 1, 2, answer));
        }
    }

    // ---- 35 sheet, 36 drop

    static void sheetBad() {
        sentence("35: BAD: also n above 24");
        noSheet("sheet", (h, x) -> h.sheet(x, 1, 3));
        noLane("sheet", (h, x) -> h.sheet(SHORTS, x, 3));
        for (int sheet = 0; sheet < 4; sheet++) {
            int asked = sheet;
            above("sheet of n", 24, (h, x) -> h.sheet(asked, 2, x));
        }
        sentence("35: BAD ahead of SIZE");
        noSheet("sheet of -1", (h, x) -> h.sheet(x, 1, -1));
        noLane("sheet of -1", (h, x) -> h.sheet(INTS, x, -1));
        noSheet("sheet of least", (h, x) -> h.sheet(x, 0, LEAST));
        noLane("sheet of least", (h, x) -> h.sheet(NO_SHEET, x, LEAST));
    }

    static void sheetSize() {
        sentence("35: SIZE: n below 0");
        for (int sheet = 0; sheet < 4; sheet++) {
            for (int lane = 0; lane < 3; lane++) {
                for (int n : new int[] {-1, -2, -24, -25, LEAST, LEAST + 1, -1 << 16}) {
                    int askedSheet = sheet;
                    int askedLane = lane;
                    refused("sheet of " + n, SIZE, h -> h.sheet(askedSheet, askedLane, n));
                }
            }
        }
    }

    static void sheetNew() {
        sentence("35: A SHEET holds a new row of a LANE: n (0 .. 24)");
        for (int sheet = 0; sheet < 4; sheet++) {
            for (int lane = 0; lane < 3; lane++) {
                for (int n = 0; n <= 24; n++) {
                    newRow(sheet, lane, n);
                }
            }
        }
    }

    static void newRow(int sheet, int lane, int n) {
        Heaps h = gives("sheet of " + n, n, SHEETS << sheet, g -> g.sheet(sheet, lane, n));
        is("no item " + n, h.heap(sheet, lane, n, 1, 0), INDEX);
        is("no item " + n, h.item(sheet, lane, n, 5), INDEX);
        is("another lane", h.item(sheet, (lane + 1) % 3, 0, 5), CAST);
        is("another lane", h.item(sheet, (lane + 2) % 3, 0, 5), CAST);
        if (n > 0) {
            is("all are 0", h.heap(sheet, lane, 0, n, 0), 1);
            holds(h, "all are 0", 0, "0");
            is("the last", h.item(sheet, lane, n - 1, 5), 1);
        }
        is("drop", h.drop(sheet), n);
    }

    static void sheetAgain() {
        sentence("35: a new row: nothing of the one before");
        for (int lane = 0; lane < 3; lane++) {
            Heaps h = row(1, lane, 5, 6, -7, 8);
            is("shorter", h.sheet(1, lane, 2), 2);
            is("sum", h.heap(1, lane, 0, 2, 0), 1);
            holds(h, "sum", 0, "0");
            is("longer", h.sheet(1, lane, 5), 5);
            is("sum", h.heap(1, lane, 0, 5, 0), 1);
            holds(h, "sum", 0, "0");
            h.item(1, lane, 4, 9);
            h.drop(1);
            is("behind a drop", h.sheet(1, lane, 5), 5);
            is("sum", h.heap(1, lane, 0, 5, 0), 1);
            holds(h, "sum", 0, "0");
        }
    }

    static void drop() {
        sentence("36: A SHEET holds nothing: how many items it had");
        int[] had = {3, 24, 0};
        for (int sheet = 0; sheet < 3; sheet++) {
            int asked = sheet;
            Heaps h = gives("drop", had[sheet], SHEETS << sheet, g -> g.drop(asked));
            for (int lane = 0; lane < 3; lane++) {
                is("then", h.item(sheet, lane, 0, 1), NULL);
                is("then", h.heap(sheet, lane, 0, 1, FREE), NULL);
                is("then", h.film(SEVEN, sheet, lane, 0), NULL);
            }
            is("then", h.drop(sheet), NULL);
            for (int other = 0; other < 3; other++) {
                is("the others", h.drop(other), other == sheet ? NULL : had[other]);
            }
        }
        sentence("36: BAD; NULL");
        noSheet("drop", (h, x) -> h.drop(x));
        refused("drop", NULL, h -> h.drop(NO_SHEET));
    }

    // ---- 37 item

    static void itemBad() {
        sentence("37: BAD");
        noSheet("item", (h, x) -> h.item(x, 1, 0, 5));
        noLane("item", (h, x) -> h.item(INTS, x, 0, 5));
        sentence("37: BAD ahead of NULL, CAST, INDEX");
        noSheet("item", (h, x) -> h.item(x, 1, 24, 5));
        for (int sheet = 0; sheet < 4; sheet++) {
            int asked = sheet;
            noLane("item", (h, x) -> h.item(asked, x, 0, 5));
            noLane("item behind the last", (h, x) -> h.item(asked, x, 24, 5));
        }
    }

    static void itemRefused() {
        sentence("37: NULL; CAST; INDEX");
        for (int lane = 0; lane < 3; lane++) {
            int asked = lane;
            refused("item", NULL, h -> h.item(NO_SHEET, asked, 0, 5));
            refused("NULL ahead of INDEX", NULL, h -> h.item(NO_SHEET, asked, -1, 5));
            refused("NULL ahead of INDEX", NULL, h -> h.item(NO_SHEET, asked, 24, 5));
            for (int sheet = 0; sheet < 3; sheet++) {
                int askedSheet = sheet;
                if (sheet != lane) {
                    refused("item", CAST, h -> h.item(askedSheet, asked, 0, 5));
                    refused("CAST ahead of INDEX", CAST, h -> h.item(askedSheet, asked, -1, 5));
                    refused("CAST ahead of INDEX", CAST, h -> h.item(askedSheet, asked, 24, 5));
                }
            }
        }
        noIndex("item of shorts", 3, (h, x) -> h.item(SHORTS, 0, x, 5));
        noIndex("item of ints", 24, (h, x) -> h.item(INTS, 1, x, 5));
        noIndex("item of no longs", 0, (h, x) -> h.item(EMPTY, 2, x, 5));
        refused("item 0 of no longs", INDEX, h -> h.item(EMPTY, 2, 0, 5));
    }

    static void itemEach() {
        sentence("37: Item i of a SHEET becomes v: 1");
        for (int lane = 0; lane < 3; lane++) {
            for (int n : new int[] {1, 2, 24}) {
                for (int i = 0; i < n; i++) {
                    Heaps h = new Heaps();
                    h.sheet(3, lane, n);
                    is("item " + i, h.item(3, lane, i, 85), 1);
                    for (int other = 0; other < n; other++) {
                        h.heap(3, lane, other, 1, 0);
                        holds(h, "item " + other, 0, other == i ? "85" : "0");
                    }
                    is("again", h.item(3, lane, i, 0), 1);
                    h.heap(3, lane, 0, n, 0);
                    holds(h, "again", 0, "0");
                }
            }
        }
    }

    static void itemAlone() {
        sentence("37, 38: no other SHEET, no PLACE changes");
        gives("item", 1, SHEETS << SHORTS, h -> h.item(SHORTS, 0, 2, 85));
        gives("item", 1, SHEETS << INTS, h -> h.item(INTS, 1, 23, 85));
        gives("film", 1, SHEETS << SHORTS, h -> h.film(SEVEN, SHORTS, 0, 2));
        gives("film", 24, SHEETS << INTS, h -> h.film(LONGEST, INTS, 1, 0));
        gives("film", 1, SHEETS << INTS, h -> h.film(NOUGHT, INTS, 1, 23));
        refused("an item as it was", 1, h -> h.item(INTS, 1, 0, 60));
        refused("an item as it was", 1, h -> h.item(SHORTS, 0, 1, 65_535));
        refused("an item as it was", 1, h -> h.item(SHORTS, 0, 0, 65_536 + 5));
    }

    static void itemBits() {
        sentence("37: its lowest bits (with its sign)");
        long[] values = {0, 1, -1, 127, 128, 255, 256, 32_767, 32_768, 32_769, 65_535, 65_536, 65_537, -32_768, -32_769, -65_535, -65_536,
            2_147_483_647L, 2_147_483_648L, 2_147_483_649L, 4_294_967_295L, 4_294_967_296L, 4_294_967_297L, -2_147_483_648L, -2_147_483_649L,
            -4_294_967_295L, -4_294_967_296L, Long.MAX_VALUE, Long.MIN_VALUE, Long.MIN_VALUE + 5, 0x7FFF_FFFF_0000_8000L, 0x8000_0000_7FFF_7FFFL};
        for (int lane = 0; lane < 3; lane++) {
            for (long v : values) {
                long due = lane == 0 ? (short) v : lane == 1 ? (int) v : v;
                Heaps h = row(2, lane, v);
                is("lane " + lane + " of " + v, h.heap(2, lane, 0, 1, 0), due < 0 ? NOT : ("" + due).length());
                holds(h, "lane " + lane + " of " + v, 0, due < 0 ? "told 0" : "" + due);
            }
        }
    }

    // ---- 38 film

    static void filmBad() {
        sentence("38: BAD");
        noPlace("film", (h, x) -> h.film(x, INTS, 1, 0));
        noSheet("film", (h, x) -> h.film(SEVEN, x, 1, 0));
        noLane("film", (h, x) -> h.film(SEVEN, INTS, x, 0));
        sentence("38: BAD ahead of NULL, CAST, INDEX");
        for (int place : new int[] {NOTHING, HEAP, TRIANGLE, LONGEST, SEVEN}) {
            noSheet("film", (h, x) -> h.film(place, x, 1, 24));
            noSheet("film", (h, x) -> h.film(place, x, 1, 0));
            for (int sheet = 0; sheet < 4; sheet++) {
                int asked = sheet;
                noLane("film", (h, x) -> h.film(place, asked, x, 0));
                noLane("film", (h, x) -> h.film(place, asked, x, -1));
            }
        }
        noPlace("film", (h, x) -> h.film(x, NO_SHEET, 1, 0));
        noPlace("film", (h, x) -> h.film(x, SHORTS, 1, -1));
    }

    static void filmPlace() {
        sentence("38: NULL; CAST (of the PLACE first)");
        for (int lane = 0; lane < 3; lane++) {
            int asked = lane;
            for (int sheet = 0; sheet < 4; sheet++) {
                int askedSheet = sheet;
                refused("nothing", NULL, h -> h.film(NOTHING, askedSheet, asked, 0));
                refused("nothing, ahead of INDEX", NULL, h -> h.film(NOTHING, askedSheet, asked, -1));
                refused("nothing, ahead of INDEX", NULL, h -> h.film(NOTHING, askedSheet, asked, 25));
                refused("a heap", CAST, h -> h.film(HEAP, askedSheet, asked, 0));
                refused("a triangle", CAST, h -> h.film(TRIANGLE, askedSheet, asked, 0));
                refused("a shape, ahead of INDEX", CAST, h -> h.film(HEAP, askedSheet, asked, -1));
                refused("a shape, ahead of INDEX", CAST, h -> h.film(HEAP, askedSheet, asked, 25));
            }
        }
    }

    static void filmSheet() {
        sentence("38: NULL; CAST: of the SHEET");
        for (int place : new int[] {SOME, NOUGHT, LONGEST, SEVEN}) {
            for (int lane = 0; lane < 3; lane++) {
                int asked = lane;
                refused("no sheet", NULL, h -> h.film(place, NO_SHEET, asked, 0));
                refused("no sheet, ahead of INDEX", NULL, h -> h.film(place, NO_SHEET, asked, -1));
                for (int sheet = 0; sheet < 3; sheet++) {
                    int askedSheet = sheet;
                    if (sheet != lane) {
                        refused("another lane", CAST, h -> h.film(place, askedSheet, asked, 0));
                        refused("another lane, ahead of INDEX", CAST, h -> h.film(place, askedSheet, asked, -1));
                        refused("another lane, ahead of INDEX", CAST, h -> h.film(place, askedSheet, asked, 24));
                    }
                }
            }
        }
    }

    static void filmIndex() {
        sentence("38: INDEX");
        noIndex("film to shorts", 3, (h, x) -> h.film(SEVEN, SHORTS, 0, x));
        noIndex("film to ints", 24, (h, x) -> h.film(SEVEN, INTS, 1, x));
        noIndex("film to no longs", 0, (h, x) -> h.film(SEVEN, EMPTY, 2, x));
        noIndex("film of 0", 24, (h, x) -> h.film(NOUGHT, INTS, 1, x));
        noIndex("film of the longest", 1, (h, x) -> h.film(LONGEST, INTS, 1, x));
        refused("film of 0 to no longs", INDEX, h -> h.film(NOUGHT, EMPTY, 2, 0));
        refused("film of the longest to three", INDEX, h -> h.film(LONGEST, SHORTS, 0, 0));
        for (int n = 2; n <= 24; n++) {
            int limbs = n;
            Setup longer = h -> big(h, SOME, ten(9 * limbs - 9), FREE);
            refused("film of " + n, INDEX, longer, h -> h.film(SOME, INTS, 1, 25 - limbs));
            refused("film of " + n, INDEX, longer, h -> h.film(SOME, INTS, 1, -1));
            refused("film of " + n, INDEX, longer, h -> h.film(SOME, INTS, 1, MOST));
            refused("film of " + n, INDEX, longer, h -> h.film(SOME, INTS, 1, LEAST));
        }
    }

    static void filmFits() {
        sentence("38: as many as a NUMBER has (one of 0), come to a SHEET, from one on: how many");
        for (int n = 1; n <= 24; n++) {
            for (String figures : new String[] {nines(9 * n), ten(9 * n - 9), n == 24 ? nines(216) : nines(9 * n + 1)}) {
                film(figures, 24 - (figures.length() + 8) / 9);
                film(figures, 0);
            }
        }
        film("0", 0);
        film("0", 23);
        film("7", 23);
        film("123456789987654321", 5);
    }

    /** Ints that all are 85, but for those that a number's nines come over. */
    static void film(String figures, int from) {
        Heaps h = new Heaps();
        big(h, 6, figures, 5);
        h.sheet(1, 1, 24);
        for (int i = 0; i < 24; i++) {
            h.item(1, 1, i, 85);
        }
        int n = (figures.length() + 8) / 9;
        is("film of " + figures + " from " + from, h.film(6, 1, 1, from), n);
        for (int i = 0; i < 24; i++) {
            h.heap(1, 1, i, 1, 0);
            boolean told = i >= from && i < from + n;
            is("item " + i, h.nine(0, 0), told ? h.nine(6, i - from) : 85);
        }
        is("the place stays", h.figures(6), figures.length());
    }

    static void filmBits() {
        sentence("38: their lowest bits, each with its sign");
        for (long nine : new long[] {0, 1, 32_767, 32_768, 65_535, 65_536, 65_537, 98_304, 999_999_999, 500_000_000, 123_456_789}) {
            for (int lane = 0; lane < 3; lane++) {
                Heaps h = new Heaps();
                h.put(0, 1_000_000_000_000_000_000L + nine);
                h.sheet(0, lane, 3);
                is("film", h.film(0, 0, lane, 0), 3);
                long due = lane == 0 ? (short) nine : nine;
                is("lane " + lane + " of " + nine, h.heap(0, lane, 0, 1, 1), due < 0 ? NOT : ("" + due).length());
                holds(h, "lane " + lane + " of " + nine, 1, due < 0 ? "told 0" : "" + due);
                h.heap(0, lane, 1, 1, 1);
                holds(h, "the next", 1, "0");
                h.heap(0, lane, 2, 1, 1);
                holds(h, "the last", 1, "1");
            }
        }
    }

    static void filmPlaces() {
        sentence("38: of a PLACE (0 .. 7), to a SHEET (0 .. 3)");
        for (int place = 0; place < 8; place++) {
            for (int sheet = 0; sheet < 4; sheet++) {
                Heaps h = new Heaps();
                h.put(place, 85);
                h.sheet(sheet, 2, 1);
                is("film", h.film(place, sheet, 2, 0), 1);
                h.heap(sheet, 2, 0, 1, 7 - place);
                holds(h, "film", 7 - place, "85");
            }
        }
    }

    public static void main(String[] args) {
        heapBad();
        heapRefused();
        heapIndex();
        heapNot();
        heapSums();
        sheetBad();
        sheetSize();
        sheetNew();
        sheetAgain();
        drop();
        itemBad();
        itemRefused();
        itemEach();
        itemAlone();
        itemBits();
        filmBad();
        filmPlace();
        filmSheet();
        filmIndex();
        filmFits();
        filmBits();
        filmPlaces();
        end("SheetsBoundaryTest");
    }
}
