/** Places, shapes, tape and sheets of whole numbers: see ../shared/DOC.md for the promises. */
public final class OrangeHeaps {
    public static final int BAD = -1, NOT = -2, FULL = -3, NONE = -4, NULL = -11, CAST = -12, INDEX = -13, SIZE = -14, ZERO = -15;

    private static final int PLACES = 8, SHEETS = 4;

    private final Place[] places = new Place[PLACES];
    private final Place[] kept = new Place[PLACES];
    private final Sheet[] sheets = new Sheet[SHEETS];
    private final Tape tape = new Tape();
    private final Reckoner reckoner = new Reckoner();
    private final Shapes shapes = new Shapes(reckoner);
    private final Parts parts = new Parts();
    private final Fractions fractions = new Fractions(parts);
    private final Whole result = new Whole();
    private final Whole spare = new Whole();
    private boolean imageKept;

    public OrangeHeaps() {
        for (int i = 0; i < PLACES; i++) {
            places[i] = new Place();
            kept[i] = new Place();
        }
        for (int i = 0; i < SHEETS; i++) {
            sheets[i] = new Sheet();
        }
    }

    // ---- 1 places, numbers, shapes

    public int put(int place, long v) {
        if (!isPlace(place) || v < 0) {
            return BAD;
        }
        result.setLong(v);
        return land(place, result);
    }

    public int shape(int place, int kind, int k) {
        if (!isPlace(place) || kind < 0 || kind > Shapes.HEAP) {
            return BAD;
        }
        if (kind >= Shapes.CORNERS ? k < 3 || k > 99 : k != 0) {
            return BAD;
        }
        places[place].holdShape(kind, k);
        return 1;
    }

    public int empty(int place) {
        if (!isPlace(place)) {
            return BAD;
        }
        int held = places[place].what;
        places[place].holdNothing();
        return held;
    }

    public int told(int place) {
        return isPlace(place) ? places[place].what : BAD;
    }

    public int type(long w, int n) {
        if (n < 1 || n > 8 || !Tape.allTypable(w, n)) {
            return BAD;
        }
        if (n > Tape.MOST - tape.length) {
            return FULL;
        }
        tape.append(w, n);
        return tape.length;
    }

    public int number(int place) {
        if (!isPlace(place)) {
            return BAD;
        }
        int fault = tape.readText(result, spare);
        tape.length = 0;
        return fault != 0 ? fault : land(place, result);
    }

    public int figures(int place) {
        if (!isPlace(place)) {
            return BAD;
        }
        int fault = numberFault(place);
        return fault != 0 ? fault : places[place].number.countFigures();
    }

    public int nine(int place, int i) {
        if (!isPlace(place) || i < 0 || i >= Place.LIMBS) {
            return BAD;
        }
        int fault = numberFault(place);
        return fault != 0 ? fault : (int) places[place].number.limb(i);
    }

    public int reckon(int what, int a, int b, int to) {
        if (what < 0 || what > 4 || !isPlace(a) || !isPlace(b) || !isPlace(to)) {
            return BAD;
        }
        int fault = numbersFault(a, b);
        if (fault != 0) {
            return fault;
        }
        Whole left = places[a].number;
        Whole right = places[b].number;
        if (what == 1 && left.compareWith(right) < 0) {
            return NOT;
        }
        if (what >= 3 && right.size == 0) {
            return ZERO;
        }
        combine(what, left, right);
        return land(to, result);
    }

    public int root(int a, int to) {
        if (!isPlace(a) || !isPlace(to)) {
            return BAD;
        }
        int fault = numberFault(a);
        if (fault != 0) {
            return fault;
        }
        Whole square = places[a].number;
        reckoner.extract(square, 2, result);
        spare.setProduct(result, result);
        int exact = spare.compareWith(square) == 0 ? 1 : 0;
        land(to, result);
        return exact;
    }

    public int order(int a, int b) {
        if (!isPlace(a) || !isPlace(b)) {
            return BAD;
        }
        int fault = numbersFault(a, b);
        if (fault != 0) {
            return fault;
        }
        int order = places[a].number.compareWith(places[b].number);
        return order > 0 ? 1 : order == 0 ? 0 : 2;
    }

    public int nth(int shape, int n, int to) {
        if (!isPlace(shape) || !isPlace(n) || !isPlace(to)) {
            return BAD;
        }
        int fault = shapeAndNumberFault(shape, n);
        if (fault != 0) {
            return fault;
        }
        Place figure = places[shape];
        if (!shapes.term(figure.kind(), figure.k, places[n].number, result)) {
            return FULL;
        }
        return land(to, result);
    }

    public int which(int shape, int a, int to) {
        if (!isPlace(shape) || !isPlace(a) || !isPlace(to)) {
            return BAD;
        }
        int fault = shapeAndNumberFault(shape, a);
        if (fault != 0) {
            return fault;
        }
        Place figure = places[shape];
        if (!shapes.find(figure.kind(), figure.k, places[a].number, result)) {
            return 0;
        }
        land(to, result);
        return 1;
    }

    // ---- 2 both, ones, nearest parts

    public int both(int i, int to) {
        if (i < 0 || i > 200 || !isPlace(to)) {
            return BAD;
        }
        fractions.climb(i, 0, spare);
        result.setProduct(spare, spare);
        return land(to, result);
    }

    public int side(int i, int what, int to) {
        if (i < 0 || i > 200 || what < 0 || what > 1 || !isPlace(to)) {
            return BAD;
        }
        fractions.climb(i, 2 * what, result);
        return land(to, result);
    }

    public int one(int d, int n, int x, int y) {
        if (!isRootless(d) || n < 1 || n > 99 || !arePair(x, y)) {
            return BAD;
        }
        if (!fractions.findOne(d, n)) {
            return FULL;
        }
        land(y, fractions.below);
        return land(x, fractions.above);
    }

    public int less(int d) {
        if (!isRootless(d)) {
            return BAD;
        }
        // x x - d y y comes to -1 at the end of the first round only when the round is odd
        return parts.countRound(d) % 2;
    }

    public int round(int d, int i) {
        if (!isRootless(d) || i < -1 || i > 9999) {
            return BAD;
        }
        return i == -1 ? parts.countRound(d) : parts.find(d, i);
    }

    public int near(int d, int i, int above, int below) {
        if (!isRootless(d) || i < 0 || i > 200 || !arePair(above, below)) {
            return BAD;
        }
        if (!fractions.walk(d, i)) {
            return FULL;
        }
        land(below, fractions.below);
        return land(above, fractions.above);
    }

    public int off(int d, int off, int i) {
        if (!isRootless(d) || off < -99 || off > 99 || i < -1 || i > 9999) {
            return BAD;
        }
        return Counts.offs(d, off, i);
    }

    public int best(int above, int below, int most, int part) {
        if (above < 0 || above > 999999 || below < 1 || below > 999999) {
            return BAD;
        }
        if (most < 1 || most > 999 || part < 0 || part > 1) {
            return BAD;
        }
        return Counts.bestPart(above, below, most, part);
    }

    // ---- 3 squares, triangles, walls

    public int two(int n, int i) {
        if (n < 0 || n > 1_000_000_000 || i < -1) {
            return BAD;
        }
        return Counts.squarePairs(n, i);
    }

    public int three(int n, int i) {
        if (n < 0 || n > 1_000_000 || i < 0 || i > 2) {
            return BAD;
        }
        return Counts.threeTriangles(n, i);
    }

    public int four(int n, int i) {
        if (n < 0 || n > 1_000_000 || i < 0 || i > 3) {
            return BAD;
        }
        return Counts.fourSquares(n, i);
    }

    public int fewest(int n) {
        if (n < 0 || n > 1_000_000_000) {
            return BAD;
        }
        return Counts.fewestSquares(n);
    }

    public int wall(int path, int i) {
        if (path < 1 || path > 999 || i < -1) {
            return BAD;
        }
        return Counts.walls(path, i);
    }

    public int flat(int k, int i) {
        if (k < 3 || k > 99 || i < -1) {
            return BAD;
        }
        return Counts.flatHeaps(k, i);
    }

    public int corners(int h, int i) {
        if (h < 1 || h > 500 || i < -1) {
            return BAD;
        }
        return Counts.rightCorners(h, i);
    }

    public int string(int length) {
        if (length < 1 || length > 100_000) {
            return BAD;
        }
        return Counts.strings(length);
    }

    public int claims() {
        int answer = judgeAll();
        tape.length = 0;
        return answer;
    }

    public int image() {
        for (int i = 0; i < PLACES; i++) {
            kept[i].copy(places[i]);
        }
        imageKept = true;
        return 1;
    }

    public int restore() {
        if (!imageKept) {
            return NONE;
        }
        for (int i = 0; i < PLACES; i++) {
            places[i].copy(kept[i]);
        }
        return 1;
    }

    // ---- 4 sheets 0 .. 3: nothing (at first), or a row of a LANE: 0 shorts, 1 ints, 2 longs, of 0 to 24 items

    public int heap(int sheet, int lane, int from, int n, int to) {
        if (!isSheet(sheet) || !isLane(lane) || n < 1 || n > Sheet.MOST || !isPlace(to)) {
            return BAD;
        }
        int fault = sheets[sheet].fault(lane, from, n);
        if (fault != 0) {
            return fault;
        }
        result.setLong(0);
        for (int i = 0; i < n; i++) {
            long item = sheets[sheet].itemAt(from + i);
            if (item < 0) {
                return NOT;
            }
            spare.setLong(item);
            result.add(spare);
        }
        return land(to, result);
    }

    public int sheet(int sheet, int lane, int n) {
        if (!isSheet(sheet) || !isLane(lane) || n > Sheet.MOST) {
            return BAD;
        }
        if (n < 0) {
            return SIZE;
        }
        sheets[sheet].begin(lane, n);
        return n;
    }

    public int drop(int sheet) {
        if (!isSheet(sheet)) {
            return BAD;
        }
        int had = sheets[sheet].length;
        if (had < 0) {
            return NULL;
        }
        sheets[sheet].length = Sheet.NOTHING;
        return had;
    }

    public int item(int sheet, int lane, int i, long v) {
        if (!isSheet(sheet) || !isLane(lane)) {
            return BAD;
        }
        int fault = sheets[sheet].fault(lane, i, 1);
        if (fault != 0) {
            return fault;
        }
        sheets[sheet].write(i, v);
        return 1;
    }

    public int film(int place, int sheet, int lane, int from) {
        if (!isPlace(place) || !isSheet(sheet) || !isLane(lane)) {
            return BAD;
        }
        int fault = numberFault(place);
        if (fault != 0) {
            return fault;
        }
        Whole number = places[place].number;
        int n = Math.max(1, number.size);
        fault = sheets[sheet].fault(lane, from, n);
        if (fault != 0) {
            return fault;
        }
        for (int i = 0; i < n; i++) {
            sheets[sheet].write(from + i, number.limb(i));
        }
        return n;
    }

    // ---- what several calls ask

    private static boolean isPlace(int place) {
        return place >= 0 && place < PLACES;
    }

    private static boolean arePair(int first, int second) {
        return isPlace(first) && isPlace(second) && first != second;
    }

    private static boolean isSheet(int sheet) {
        return sheet >= 0 && sheet < SHEETS;
    }

    private static boolean isLane(int lane) {
        return lane >= 0 && lane <= 2;
    }

    private static boolean isRootless(int d) {
        return d >= 2 && d <= 9999 && !Counts.isSquare(d);
    }

    private int numberFault(int place) {
        int held = places[place].what;
        return held == Place.NOTHING ? NULL : held != Place.NUMBER ? CAST : 0;
    }

    private int shapeFault(int place) {
        int held = places[place].what;
        return held == Place.NOTHING ? NULL : held == Place.NUMBER ? CAST : 0;
    }

    private int numbersFault(int a, int b) {
        int fault = numberFault(a);
        return fault != 0 ? fault : numberFault(b);
    }

    private int shapeAndNumberFault(int shape, int number) {
        int fault = shapeFault(shape);
        return fault != 0 ? fault : numberFault(number);
    }

    private int land(int place, Whole number) {
        if (number.size > Place.LIMBS) {
            return FULL;
        }
        places[place].holdNumber(number);
        return number.countFigures();
    }

    private void combine(int what, Whole left, Whole right) {
        if (what == 2) {
            result.setProduct(left, right);
        } else if (what >= 3) {
            reckoner.divide(left, right);
            result.copy(what == 3 ? reckoner.quotient : reckoner.rest);
        } else {
            result.copy(left);
            if (what == 0) {
                result.add(right);
            } else {
                result.subtract(right);
            }
        }
    }

    private int judgeAll() {
        int wrong = NONE;
        tape.at = 0;
        for (int i = 0; i < Tape.CLAIMS; i++) {
            int fault = tape.readClaim();
            if (fault != 0) {
                return fault;
            }
            if (wrong == NONE && !isSo()) {
                wrong = i;
            }
            if (tape.atEnd()) {
                return wrong;
            }
            if (i == Tape.CLAIMS - 1 || !tape.pass(',')) {
                return tape.faultHere();
            }
        }
        return wrong;
    }

    private boolean isSo() {
        spare.setLong(tape.n);
        if (!shapes.term(tape.kind, tape.k, spare, result)) {
            return false;
        }
        spare.setLong(tape.value);
        return result.compareWith(spare) == 0;
    }

    /** A whole number, 0 or more, as limbs of nine figures each, the lowest first. */
    static final class Whole {
        static final int ROOM = 56, NINE = 9;
        static final long BASE = 1_000_000_000L;

        final long[] limbs = new long[ROOM];
        int size;

        long limb(int i) {
            return i >= 0 && i < size && i < ROOM ? limbs[i] : 0;
        }

        void write(int i, long v) {
            if (i >= 0 && i < ROOM) {
                limbs[i] = v;
            }
        }

        void trim(int most) {
            int top = Math.max(0, Math.min(most, ROOM));
            while (top > 0 && limbs[top - 1] == 0) {
                top--;
            }
            size = top;
        }

        /** One more limb of nought ahead, until the next trim. */
        void widen() {
            write(size, 0);
            size = size < ROOM ? size + 1 : ROOM;
        }

        void setLong(long v) {
            write(0, v % BASE);
            write(1, v / BASE % BASE);
            write(2, v / BASE / BASE);
            trim(3);
        }

        void setPowerOfTen(int power) {
            int top = power / NINE;
            for (int i = 0; i <= top && i < ROOM; i++) {
                limbs[i] = 0;
            }
            long v = 1;
            for (int i = 0; i < power % NINE; i++) {
                v *= 10;
            }
            write(top, v);
            trim(top + 1);
        }

        void copy(Whole other) {
            for (int i = 0; i < other.size; i++) {
                write(i, other.limb(i));
            }
            trim(other.size);
        }

        void add(Whole other) {
            int most = Math.max(size, other.size);
            long carry = 0;
            for (int i = 0; i <= most; i++) {
                long sum = limb(i) + other.limb(i) + carry;
                carry = sum >= BASE ? 1 : 0;
                write(i, sum - carry * BASE);
            }
            trim(most + 1);
        }

        /** Takes away a number that is no more than this one. */
        void subtract(Whole other) {
            int most = size;
            long borrow = 0;
            for (int i = 0; i < most; i++) {
                long rest = limb(i) - other.limb(i) - borrow;
                borrow = rest < 0 ? 1 : 0;
                write(i, rest + borrow * BASE);
            }
            trim(most);
        }

        /** Times a small number (below the base), and one more small number to it. */
        void scale(long times, long plus) {
            int most = size;
            long carry = plus;
            for (int i = 0; i <= most; i++) {
                long product = limb(i) * times + carry;
                carry = product / BASE;
                write(i, product % BASE);
            }
            trim(most + 1);
        }

        /** Divides by a small number (below the base), cut: the rest. */
        long shrink(long divisor) {
            if (divisor <= 0) {
                return 0;
            }
            long rest = 0;
            for (int i = size - 1; i >= 0; i--) {
                long part = rest * BASE + limb(i);
                write(i, part / divisor);
                rest = part % divisor;
            }
            trim(size);
            return rest;
        }

        /** Becomes a product; neither factor may be this one. */
        void setProduct(Whole left, Whole right) {
            int most = left.size + right.size;
            for (int i = 0; i < most && i < ROOM; i++) {
                limbs[i] = 0;
            }
            size = Math.min(most, ROOM);
            for (int i = 0; i < left.size; i++) {
                long carry = 0;
                for (int j = 0; j < right.size; j++) {
                    long sum = limb(i + j) + left.limb(i) * right.limb(j) + carry;
                    carry = sum / BASE;
                    write(i + j, sum % BASE);
                }
                write(i + right.size, carry);
            }
            trim(most);
        }

        int compareWith(Whole other) {
            if (size != other.size) {
                return size > other.size ? 1 : -1;
            }
            for (int i = size - 1; i >= 0; i--) {
                if (limb(i) != other.limb(i)) {
                    return limb(i) > other.limb(i) ? 1 : -1;
                }
            }
            return 0;
        }

        int countFigures() {
            if (size == 0) {
                return 1;
            }
            int count = (size - 1) * NINE;
            long top = limb(size - 1);
            for (int i = 0; i < NINE && top > 0; i++) {
                count++;
                top /= 10;
            }
            return count;
        }
    }

    /** Quotients and roots of whole numbers. */
    static final class Reckoner {
        private static final int STEPS = 1_000_000;

        final Whole quotient = new Whole();
        final Whole rest = new Whole();
        private final Whole divisor = new Whole();
        private final Whole next = new Whole();
        private final Whole power = new Whole();

        void divide(Whole above, Whole below) {
            rest.copy(above);
            quotient.setLong(0);
            if (below.size == 0 || above.compareWith(below) < 0) {
                return;
            }
            if (below.size == 1) {
                quotient.copy(above);
                rest.setLong(quotient.shrink(below.limb(0)));
                return;
            }
            divideLong(below);
        }

        // a divisor whose highest limb is at least half the base makes every guess at most two too high
        private void divideLong(Whole below) {
            long lift = Whole.BASE / (below.limb(below.size - 1) + 1);
            divisor.copy(below);
            divisor.scale(lift, 0);
            rest.scale(lift, 0);
            int n = divisor.size;
            int top = rest.size - n;
            rest.widen();
            for (int j = top; j >= 0; j--) {
                long guess = guessAt(j, n);
                takeAway(guess, j, n);
            }
            quotient.trim(top + 1);
            rest.trim(n);
            rest.shrink(lift);
        }

        private long guessAt(int j, int n) {
            long head = rest.limb(j + n) * Whole.BASE + rest.limb(j + n - 1);
            long highest = divisor.limb(n - 1);
            return highest == 0 ? 0 : Math.min(head / highest, Whole.BASE - 1);
        }

        private void takeAway(long guess, int j, int n) {
            long debt = 0;
            for (int i = 0; i <= n; i++) {
                long part = rest.limb(i + j) - guess * divisor.limb(i) + debt;
                debt = Math.floorDiv(part, Whole.BASE);
                rest.write(i + j, Math.floorMod(part, Whole.BASE));
            }
            long times = guess;
            for (int round = 0; round < 4 && debt < 0; round++) {
                debt += giveBack(j, n);
                times--;
            }
            quotient.write(j, times);
        }

        private long giveBack(int j, int n) {
            long carry = 0;
            for (int i = 0; i <= n; i++) {
                long part = rest.limb(i + j) + divisor.limb(i) + carry;
                carry = part >= Whole.BASE ? 1 : 0;
                rest.write(i + j, part - carry * Whole.BASE);
            }
            return carry;
        }

        /** The root (degree 2) or cube root (degree 3), cut, of a number that is not the answer's own. */
        void extract(Whole number, int degree, Whole answer) {
            if (number.size == 0 || degree < 2 || degree > 3) {
                answer.setLong(0);
                return;
            }
            answer.setPowerOfTen((number.countFigures() + degree - 1) / degree);
            // Newton's steps from above: each next one is less, until the root is reached
            for (int step = 0; step < STEPS; step++) {
                power.copy(answer);
                if (degree == 3) {
                    power.setProduct(answer, answer);
                }
                divide(number, power);
                next.copy(answer);
                next.scale(degree - 1, 0);
                next.add(quotient);
                next.shrink(degree);
                if (next.compareWith(answer) >= 0) {
                    return;
                }
                answer.copy(next);
            }
        }
    }

    /** The n-th of a shape, and which of a shape a number is. */
    static final class Shapes {
        static final int SQUARE = 0, TRIANGLE = 1, OBLONG = 2, CORNERS = 3, HEAP = 4;
        // what has more limbs than this has a square of more than 216 figures
        private static final int LONGEST = 13;

        private final Reckoner reckoner;
        private final Whole factor = new Whole();
        private final Whole amount = new Whole();
        private final Whole oblong = new Whole();
        private final Whole base = new Whole();
        private final Whole candidate = new Whole();
        private final Whole value = new Whole();

        Shapes(Reckoner reckoner) {
            this.reckoner = reckoner;
        }

        /** Whether the n-th has no more than 216 figures; then it is the answer. */
        boolean term(int kind, int k, Whole n, Whole answer) {
            if (n.size > LONGEST) {
                return false;
            }
            if (n.size == 0) {
                answer.setLong(0);
                return true;
            }
            if (kind == SQUARE) {
                answer.setProduct(n, n);
            } else if (kind == CORNERS) {
                setFactor(n, k - 2, k - 4);
                answer.setProduct(n, factor);
                answer.shrink(2);
            } else {
                setFactor(n, 1, -1);
                answer.setProduct(n, factor);
                if (kind == TRIANGLE) {
                    answer.shrink(2);
                }
            }
            if (kind == HEAP) {
                oblong.copy(answer);
                setFactor(n, k - 2, k - 5);
                answer.setProduct(oblong, factor);
                answer.shrink(6);
            }
            return answer.size <= Place.LIMBS;
        }

        private void setFactor(Whole n, int times, int less) {
            factor.copy(n);
            factor.scale(times, 0);
            amount.setLong(Math.abs(less));
            if (less < 0) {
                factor.add(amount);
            } else {
                factor.subtract(amount);
            }
        }

        /** Whether a number is of a shape; then which is the answer. */
        boolean find(int kind, int k, Whole number, Whole answer) {
            base.copy(number);
            if (kind == TRIANGLE) {
                base.scale(2, 0);
            } else if (kind == CORNERS) {
                base.scale(2, 0);
                base.shrink(k - 2);
            } else if (kind == HEAP) {
                base.scale(6, 0);
                base.shrink(k - 2);
            }
            reckoner.extract(base, kind == HEAP ? 3 : 2, candidate);
            // the root, cut, is the n that is sought, or one less
            for (int i = 0; i < 2; i++) {
                if (term(kind, k, candidate, value) && value.compareWith(number) == 0) {
                    answer.copy(candidate);
                    return true;
                }
                amount.setLong(1);
                candidate.add(amount);
            }
            return false;
        }
    }

    /** The nearest parts of the root of d, one after another. */
    static final class Parts {
        static final int ENOUGH = 1_000_000;

        int part;
        private int first;
        private int lift;
        private int divisor;
        private int d;

        void begin(int of) {
            d = of;
            first = (int) Counts.rootOf(of);
            part = first;
            lift = 0;
            divisor = 1;
        }

        void step() {
            lift = divisor * part - lift;
            divisor = divisor == 0 ? 1 : (d - lift * lift) / divisor;
            part = divisor == 0 ? 0 : (first + lift) / divisor;
        }

        int countRound(int of) {
            begin(of);
            for (int count = 1; count < ENOUGH; count++) {
                step();
                if (part == 2 * first) {
                    return count;
                }
            }
            return 0;
        }

        int find(int of, int i) {
            begin(of);
            for (int j = 0; j < i; j++) {
                step();
            }
            return part;
        }
    }

    /** Fractions near a root, what is one more than d squares, and the ladder of squares that are triangles. */
    static final class Fractions {
        final Whole above = new Whole();
        final Whole below = new Whole();
        private final Parts parts;
        private final Whole olderAbove = new Whole();
        private final Whole olderBelow = new Whole();
        private final Whole leastAbove = new Whole();
        private final Whole leastBelow = new Whole();
        private final Whole spare = new Whole();

        Fractions(Parts parts) {
            this.parts = parts;
        }

        /** Goes to the i-th nearest fraction; false where it has more than 216 figures. */
        boolean walk(int d, int i) {
            parts.begin(d);
            olderAbove.setLong(1);
            olderBelow.setLong(0);
            above.setLong(parts.part);
            below.setLong(1);
            for (int j = 0; j < i; j++) {
                parts.step();
                advance(above, olderAbove, parts.part);
                advance(below, olderBelow, parts.part);
                if (above.size > Place.LIMBS) {
                    return false;
                }
            }
            return true;
        }

        private void advance(Whole now, Whole older, int part) {
            spare.copy(now);
            spare.scale(part, 0);
            spare.add(older);
            older.copy(now);
            now.copy(spare);
        }

        /** Goes to the n-th x, y with x x one more than d y y; false where x has more than 216 figures. */
        boolean findOne(int d, int n) {
            int length = parts.countRound(d);
            if (!walk(d, (length % 2 == 0 ? length : 2 * length) - 1)) {
                return false;
            }
            leastAbove.copy(above);
            leastBelow.copy(below);
            for (int i = 1; i < n; i++) {
                combineWithLeast(d);
                if (above.size > Place.LIMBS) {
                    return false;
                }
            }
            return true;
        }

        private void combineWithLeast(int d) {
            olderAbove.setProduct(below, leastBelow);
            olderAbove.scale(d, 0);
            spare.setProduct(above, leastAbove);
            olderAbove.add(spare);
            olderBelow.setProduct(below, leastAbove);
            spare.setProduct(above, leastBelow);
            olderBelow.add(spare);
            above.copy(olderAbove);
            below.copy(olderBelow);
        }

        /** From 0, 1 each next is six times the last, less the one before, and a told number more. */
        void climb(int i, int plus, Whole answer) {
            above.setLong(0);
            below.setLong(1);
            for (int j = 0; j < i; j++) {
                spare.copy(below);
                spare.scale(6, plus);
                spare.subtract(above);
                above.copy(below);
                below.copy(spare);
            }
            answer.copy(above);
        }
    }

    /** What is found by going through small numbers; an i of -1 asks how many there are. */
    static final class Counts {
        private static final int ENOUGH = 1_000_000, HOW_MANY = -1;
        // bit r is set where r is the rest of a square by 64, by 63
        private static final long SQUARES_BY_64 = 0x0202_0212_0203_0213L, SQUARES_BY_63 = 0x0402_4830_1245_0293L;

        static long rootOf(long v) {
            long root = 0;
            for (int bit = 30; bit >= 0; bit--) {
                long tried = root + (1L << bit);
                if (tried * tried <= v) {
                    root = tried;
                }
            }
            return root;
        }

        static boolean isSquare(long v) {
            // most numbers leave rests that no square leaves: then no root need be drawn
            if (v < 0 || (SQUARES_BY_64 >> (v & 63) & 1) == 0 || (SQUARES_BY_63 >> v % 63 & 1) == 0) {
                return false;
            }
            long root = rootOf(v);
            return root * root == v;
        }

        static int close(int i, int count) {
            return i == HOW_MANY ? count : NONE;
        }

        static int offs(int d, int off, int i) {
            int count = 0;
            for (long y = 0; y <= 9999; y++) {
                if (isSquare(d * y * y + off)) {
                    if (count == i) {
                        return (int) y;
                    }
                    count++;
                }
            }
            return close(i, count);
        }

        static int bestPart(long above, long below, int most, int part) {
            long bestAbove = 0;
            long bestBelow = 0;
            long bestGap = 0;
            for (long q = 1; q <= most && below > 0; q++) {
                long cut = above * q / below;
                for (long p = cut; p <= cut + 1; p++) {
                    long gap = Math.abs(above * q - p * below);
                    // a gap counts by its own below: gap by q against bestGap by bestBelow
                    if (bestBelow == 0 || gap * bestBelow < bestGap * q) {
                        bestAbove = p;
                        bestBelow = q;
                        bestGap = gap;
                    }
                }
            }
            return (int) (part == 0 ? bestAbove : bestBelow);
        }

        static int squarePairs(long n, int i) {
            long b = rootOf(n);
            int count = 0;
            long a = 0;
            for (int step = 0; step < ENOUGH && a <= b; step++) {
                long sum = a * a + b * b;
                if (sum > n) {
                    b--;
                    continue;
                }
                if (sum == n) {
                    if (count == i) {
                        return (int) a;
                    }
                    count++;
                }
                a++;
            }
            return close(i, count);
        }

        static long triangle(long n) {
            return n * (n + 1) / 2;
        }

        static int threeTriangles(long n, int i) {
            for (long a = 0; a < ENOUGH && 3 * triangle(a) <= n; a++) {
                long rest = n - triangle(a);
                long b = a;
                long c = rootOf(2 * rest);
                for (int step = 0; step < ENOUGH && b <= c; step++) {
                    long sum = triangle(b) + triangle(c);
                    if (sum == rest) {
                        return (int) (i == 0 ? a : i == 1 ? b : c);
                    }
                    if (sum > rest) {
                        c--;
                    } else {
                        b++;
                    }
                }
            }
            return NONE;
        }

        /** Whether a number is no three squares together: fours times a number that is seven by eight. */
        static boolean needsFour(long n) {
            long core = n;
            for (int i = 0; i < 32 && core > 0 && core % 4 == 0; i++) {
                core /= 4;
            }
            return core % 8 == 7;
        }

        static int fourSquares(long n, int i) {
            for (long a = 0; a < ENOUGH && 4 * a * a <= n; a++) {
                long three = n - a * a;
                if (needsFour(three)) {
                    continue;
                }
                for (long b = a; b < ENOUGH && 3 * b * b <= three; b++) {
                    long two = three - b * b;
                    long c = lesserOfPair(two, b);
                    if (c >= 0) {
                        return (int) (i == 0 ? a : i == 1 ? b : i == 2 ? c : rootOf(two - c * c));
                    }
                }
            }
            return NONE;
        }

        /** The lesser of two numbers from a least one on whose squares together are n, or -1. */
        static long lesserOfPair(long n, long least) {
            if (n % 4 == 3) {
                return -1;
            }
            long c = least;
            long d = rootOf(n);
            for (int step = 0; step < ENOUGH && c <= d; step++) {
                long sum = c * c + d * d;
                if (sum == n) {
                    return c;
                }
                if (sum > n) {
                    d--;
                } else {
                    c++;
                }
            }
            return -1;
        }

        static int fewestSquares(long n) {
            if (n == 0) {
                return 0;
            }
            if (isSquare(n)) {
                return 1;
            }
            if (lesserOfPair(n, 1) > 0) {
                return 2;
            }
            return needsFour(n) ? 4 : 3;
        }

        // a wall has as many stones in its path as inside when (a - 4 path) (b - 4 path) is 8 path path
        static int walls(long path, int i) {
            long product = 8 * path * path;
            int count = 0;
            for (long u = 1; u < ENOUGH && u * u <= product; u++) {
                if (product % u == 0) {
                    if (count == i) {
                        return (int) (u + 4 * path);
                    }
                    count++;
                }
            }
            return close(i, count);
        }

        static int flatHeaps(long k, int i) {
            int count = 0;
            for (long n = 1; n <= 3000; n++) {
                if (isSquare(n * (n + 1) * ((k - 2) * n - (k - 5)) / 6)) {
                    if (count == i) {
                        return (int) n;
                    }
                    count++;
                }
            }
            return close(i, count);
        }

        static int rightCorners(int h, int i) {
            int count = 0;
            for (int c = 1; c <= h; c++) {
                int b = c - 1;
                for (int a = 1; a < b; a++) {
                    while (b > a && a * a + b * b > c * c) {
                        b--;
                    }
                    if (a < b && a * a + b * b == c * c) {
                        if (count == i) {
                            return 1000 * a + c;
                        }
                        count++;
                    }
                }
            }
            return close(i, count);
        }

        // of a string s and a side a the other side is s (s - 2 a) by 2 (s - a)
        static int strings(long length) {
            int count = 0;
            for (long a = 1; 3 * a < length; a++) {
                long above = length * (length - 2 * a);
                long below = 2 * (length - a);
                if (above % below == 0 && above / below > a) {
                    count++;
                }
            }
            return count;
        }
    }

    /** The tape: at most 100 bytes, read as a number or as claims. */
    static final class Tape {
        static final int MOST = 100, CLAIMS = 8;
        private static final int FAULT = -20, TEXT_FIGURES = 80, CLAIM_FIGURES = 18;
        private static final String LETTERS = "stoch";

        final int[] bytes = new int[MOST];
        int length;
        int at;
        long value;
        int kind;
        int k;
        long n;
        private long read;

        static boolean allTypable(long w, int n) {
            for (int i = 0; i < n; i++) {
                long b = w >> 8 * i & 255;
                if (b < 32 || b > 126) {
                    return false;
                }
            }
            return true;
        }

        void append(long w, int n) {
            for (int i = n - 1; i >= 0 && length < MOST; i--) {
                bytes[length] = (int) (w >> 8 * i & 255);
                length++;
            }
        }

        int byteAt(int i) {
            return i >= 0 && i < length && i < MOST ? bytes[i] : 0;
        }

        boolean isFigure(int b) {
            return b >= '0' && b <= '9';
        }

        int fault(int place) {
            return FAULT - place;
        }

        int faultHere() {
            return fault(at);
        }

        void skipBlanks() {
            while (at < length && byteAt(at) == ' ') {
                at++;
            }
        }

        boolean atEnd() {
            skipBlanks();
            return at >= length;
        }

        boolean pass(int b) {
            skipBlanks();
            if (byteAt(at) != b) {
                return false;
            }
            at++;
            return true;
        }

        /** The whole tape as a number of up to 80 figures: 0, or a fault. */
        int readText(Whole answer, Whole figure) {
            answer.setLong(0);
            int count = 0;
            for (int i = 0; i < length; i++) {
                int b = byteAt(i);
                if (b == ' ') {
                    continue;
                }
                if (!isFigure(b) || count == TEXT_FIGURES) {
                    return fault(i);
                }
                answer.scale(10, 0);
                figure.setLong(b - '0');
                answer.add(figure);
                count++;
            }
            return count == 0 ? fault(length) : 0;
        }

        /** One claim from where the reading stands: 0, or a fault. */
        int readClaim() {
            int fault = readNumber(0, 999_999_999_999_999_999L);
            if (fault != 0) {
                return fault;
            }
            value = read;
            if (!pass('=')) {
                return faultHere();
            }
            skipBlanks();
            kind = LETTERS.indexOf((char) byteAt(at));
            if (at >= length || kind < 0) {
                return faultHere();
            }
            at++;
            fault = kind >= Shapes.CORNERS ? readCorners() : 0;
            if (fault != 0) {
                return fault;
            }
            fault = readNumber(0, 999_999_999);
            n = read;
            return fault;
        }

        private int readCorners() {
            int fault = readNumber(3, 99);
            if (fault != 0) {
                return fault;
            }
            k = (int) read;
            return pass(':') ? 0 : faultHere();
        }

        private int readNumber(long least, long most) {
            skipBlanks();
            int start = at;
            read = 0;
            for (; at < length && isFigure(byteAt(at)); at++) {
                if (at - start < CLAIM_FIGURES) {
                    read = 10 * read + byteAt(at) - '0';
                }
            }
            if (at == start || at - start > CLAIM_FIGURES || read < least || read > most) {
                return fault(start);
            }
            return 0;
        }
    }

    /** What one place holds: nothing, a number, or a shape. */
    static final class Place {
        static final int NOTHING = 0, NUMBER = 1, LIMBS = 24;

        int what;
        int k;
        final Whole number = new Whole();

        int kind() {
            return what - 2;
        }

        void holdNothing() {
            what = NOTHING;
        }

        void holdNumber(Whole given) {
            what = NUMBER;
            number.copy(given);
        }

        void holdShape(int kind, int corners) {
            what = 2 + kind;
            k = corners;
        }

        void copy(Place other) {
            what = other.what;
            k = other.k;
            number.copy(other.number);
        }
    }

    /** What one sheet holds: nothing, or a row of a lane. */
    static final class Sheet {
        static final int MOST = 24, NOTHING = -1;

        final long[] items = new long[MOST];
        int lane;
        int length = NOTHING;

        void begin(int newLane, int n) {
            for (int i = 0; i < MOST; i++) {
                items[i] = 0;
            }
            lane = newLane;
            length = n;
        }

        int fault(int asked, int from, int n) {
            if (length < 0) {
                return NULL;
            }
            if (asked != lane) {
                return CAST;
            }
            // from is not added to: it may be as great as an int can be
            return from < 0 || from > length - n ? INDEX : 0;
        }

        long itemAt(int i) {
            return i >= 0 && i < MOST ? items[i] : 0;
        }

        void write(int i, long v) {
            if (i >= 0 && i < MOST) {
                items[i] = lane == 0 ? (short) v : lane == 1 ? (int) v : v;
            }
        }
    }
}
