/** One object under test; it counts its calls, as the document promises nothing behind the 512th. */
final class Heaps {
    private static final int PROMISED = 512;

    private final OrangeHeaps heaps = new OrangeHeaps();
    private int calls;

    private OrangeHeaps asked() {
        calls++;
        if (calls > PROMISED) {
            throw new IllegalStateException("a test asks one object more than " + PROMISED + " times");
        }
        return heaps;
    }

    /** How many calls are still promised. */
    int left() {
        return PROMISED - calls;
    }

    int put(int place, long v) {
        return asked().put(place, v);
    }

    int shape(int place, int kind, int k) {
        return asked().shape(place, kind, k);
    }

    int empty(int place) {
        return asked().empty(place);
    }

    int told(int place) {
        return asked().told(place);
    }

    int type(long w, int n) {
        return asked().type(w, n);
    }

    int number(int place) {
        return asked().number(place);
    }

    int figures(int place) {
        return asked().figures(place);
    }

    int nine(int place, int i) {
        return asked().nine(place, i);
    }

    int reckon(int what, int a, int b, int to) {
        return asked().reckon(what, a, b, to);
    }

    int root(int a, int to) {
        return asked().root(a, to);
    }

    int order(int a, int b) {
        return asked().order(a, b);
    }

    int nth(int shape, int n, int to) {
        return asked().nth(shape, n, to);
    }

    int which(int shape, int a, int to) {
        return asked().which(shape, a, to);
    }

    int both(int i, int to) {
        return asked().both(i, to);
    }

    int side(int i, int what, int to) {
        return asked().side(i, what, to);
    }

    int one(int d, int n, int x, int y) {
        return asked().one(d, n, x, y);
    }

    int less(int d) {
        return asked().less(d);
    }

    int round(int d, int i) {
        return asked().round(d, i);
    }

    int near(int d, int i, int above, int below) {
        return asked().near(d, i, above, below);
    }

    int off(int d, int off, int i) {
        return asked().off(d, off, i);
    }

    int best(int above, int below, int most, int part) {
        return asked().best(above, below, most, part);
    }

    int two(int n, int i) {
        return asked().two(n, i);
    }

    int three(int n, int i) {
        return asked().three(n, i);
    }

    int four(int n, int i) {
        return asked().four(n, i);
    }

    int fewest(int n) {
        return asked().fewest(n);
    }

    int wall(int path, int i) {
        return asked().wall(path, i);
    }

    int flat(int k, int i) {
        return asked().flat(k, i);
    }

    int corners(int h, int i) {
        return asked().corners(h, i);
    }

    int string(int length) {
        return asked().string(length);
    }

    int claims() {
        return asked().claims();
    }

    int image() {
        return asked().image();
    }

    int restore() {
        return asked().restore();
    }

    int heap(int sheet, int lane, int from, int n, int to) {
        return asked().heap(sheet, lane, from, n, to);
    }

    int sheet(int sheet, int lane, int n) {
        return asked().sheet(sheet, lane, n);
    }

    int drop(int sheet) {
        return asked().drop(sheet);
    }

    int item(int sheet, int lane, int i, long v) {
        return asked().item(sheet, lane, i, v);
    }

    int film(int place, int sheet, int lane, int from) {
        return asked().film(place, sheet, lane, from);
    }
}
