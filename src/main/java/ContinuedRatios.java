/**
 * Exact fractions in registers, in lowest terms, as long as there is room;
 * their continued fractions, and the best fractions with small lower numbers.
 *
 * Every number a call needs is made in the constructor and used again: no
 * call makes an object.
 */
public final class ContinuedRatios {
    private static final int MOST_REGISTERS = 8;
    private static final int MOST_WIDTH = 8;
    private static final int MOST_LOWER = 1000;

    private static final int DONE = 0;
    private static final int NO_ROOM = 1;
    private static final int OVER_ZERO = 2;
    private static final int NO_REGISTER = 3;
    private static final int NO_ORDER = 2;
    private static final int NO_QUOTIENT = Integer.MIN_VALUE;
    private static final long NO_FRACTION = Long.MIN_VALUE;

    private static final int UPPER_PART = 0;
    private static final int LOWER_PART = 1;

    private final int width;
    private final Fraction[] registers;

    /** What is left of the continued fraction; its lower number is 0 when nothing is. */
    private final Fraction rest = new Fraction();

    private final Fraction result = new Fraction();
    private final Reducer reducer = new Reducer();
    private final NearestSearch nearest = new NearestSearch();

    private final Natural leftUpper = new Natural();
    private final Natural leftLower = new Natural();
    private final Natural rightUpper = new Natural();
    private final Natural rightLower = new Natural();
    private final Natural shared = new Natural();
    private final Natural product = new Natural();
    private final Natural whole = new Natural();
    private final Natural remainder = new Natural();

    public ContinuedRatios(int registers, int width) {
        this.width = sizeOrOne(width, MOST_WIDTH);
        this.registers = new Fraction[sizeOrOne(registers, MOST_REGISTERS)];
        for (int r = 0; r < this.registers.length; r++) {
            this.registers[r] = new Fraction();
            this.registers[r].lower.become(1);
        }
    }

    public int set(int r, int p, int q) {
        if (!isRegister(r)) {
            return NO_REGISTER;
        }
        if (q == 0) {
            return OVER_ZERO;
        }
        // As longs, because -2147483648 without its sign is no int.
        result.upper.become(Math.abs((long) p));
        result.lower.become(Math.abs((long) q));
        result.signum = Integer.signum(p) * Integer.signum(q);
        reducer.reduce(result.upper, result.lower);
        return keepResult(r);
    }

    public int add(int d, int a, int b) {
        if (!areRegisters(d, a, b)) {
            return NO_REGISTER;
        }
        addUp(registers[a], registers[b], registers[b].signum);
        return keepResult(d);
    }

    public int sub(int d, int a, int b) {
        if (!areRegisters(d, a, b)) {
            return NO_REGISTER;
        }
        addUp(registers[a], registers[b], -registers[b].signum);
        return keepResult(d);
    }

    public int mul(int d, int a, int b) {
        if (!areRegisters(d, a, b)) {
            return NO_REGISTER;
        }
        Fraction right = registers[b];
        multiply(registers[a], right.signum, right.upper, right.lower);
        return keepResult(d);
    }

    public int div(int d, int a, int b) {
        if (!areRegisters(d, a, b)) {
            return NO_REGISTER;
        }
        Fraction right = registers[b];
        if (right.signum == 0) {
            return OVER_ZERO;
        }
        multiply(registers[a], right.signum, right.lower, right.upper);
        return keepResult(d);
    }

    public int cmp(int a, int b) {
        if (!isRegister(a) || !isRegister(b)) {
            return NO_ORDER;
        }
        Fraction left = registers[a];
        Fraction right = registers[b];
        if (left.signum != right.signum) {
            return left.signum < right.signum ? -1 : 1;
        }
        leftUpper.becomeProduct(left.upper, right.lower);
        rightUpper.becomeProduct(right.upper, left.lower);
        return left.signum * leftUpper.compareWith(rightUpper);
    }

    public boolean fits(int r) {
        return isRegister(r) && isInt(divideDown(registers[r]));
    }

    public int floorSmall(int r) {
        if (!isRegister(r)) {
            return 0;
        }
        long floor = divideDown(registers[r]);
        return isInt(floor) ? (int) floor : 0;
    }

    public boolean cfStart(int r) {
        if (!isRegister(r)) {
            return false;
        }
        rest.become(registers[r]);
        return true;
    }

    public int cfNext() {
        if (rest.lower.isZero()) {
            return NO_QUOTIENT;
        }
        long quotient = divideDown(rest);
        // The least int is an int, but as a quotient it does not fit.
        if (!isInt(quotient) || quotient == NO_QUOTIENT) {
            return NO_QUOTIENT;
        }
        rest.signum = 1;
        rest.upper.become(rest.lower);
        rest.lower.become(remainder);
        return (int) quotient;
    }

    public boolean cfDone() {
        return rest.lower.isZero();
    }

    public int numLimb(int r, int i) {
        return isRegister(r) ? (int) registers[r].upper.limb(i) : 0;
    }

    public int denLimb(int r, int i) {
        return isRegister(r) ? (int) registers[r].lower.limb(i) : 0;
    }

    public int sign(int r) {
        return isRegister(r) ? registers[r].signum : 0;
    }

    public long best(int r, int most, int part) {
        if (!isRegister(r) || most < 1 || most > MOST_LOWER) {
            return NO_FRACTION;
        }
        if (part != UPPER_PART && part != LOWER_PART) {
            return NO_FRACTION;
        }
        long floor = divideDown(registers[r]);
        if (!isInt(floor)) {
            return NO_FRACTION;
        }
        nearest.seek(floor, remainder, registers[r].lower, most);
        return part == UPPER_PART ? nearest.upper : nearest.lower;
    }

    private static int sizeOrOne(int size, int most) {
        return size >= 1 && size <= most ? size : 1;
    }

    private static boolean isInt(long value) {
        return value >= Integer.MIN_VALUE && value <= Integer.MAX_VALUE;
    }

    private boolean isRegister(int r) {
        return r >= 0 && r < registers.length;
    }

    private boolean areRegisters(int d, int a, int b) {
        return isRegister(d) && isRegister(a) && isRegister(b);
    }

    /** The result becomes register d's, when there is room for it. */
    private int keepResult(int d) {
        if (result.upper.length > width || result.lower.length > width) {
            return NO_ROOM;
        }
        registers[d].become(result);
        return DONE;
    }

    /**
     * The result becomes left plus right, right's sign being taken as the one given.
     * Only what the two lower numbers share can divide the upper number of the
     * sum, so no greatest common divisor of long numbers has to be found.
     */
    private void addUp(Fraction left, Fraction right, int rightSignum) {
        leftLower.become(left.lower);
        rightLower.become(right.lower);
        reducer.reduce(leftLower, rightLower);
        shared.become(reducer.divisor);
        leftUpper.becomeProduct(left.upper, rightLower);
        rightUpper.becomeProduct(right.upper, leftLower);
        addUpperNumbers(left.signum, rightSignum);
        reducer.reduce(result.upper, shared);
        product.becomeProduct(leftLower, rightLower);
        result.lower.becomeProduct(product, shared);
    }

    private void addUpperNumbers(int leftSignum, int rightSignum) {
        if (leftSignum * rightSignum >= 0) {
            result.upper.becomeSum(leftUpper, rightUpper);
            result.signum = leftSignum != 0 ? leftSignum : rightSignum;
            return;
        }
        int order = leftUpper.compareWith(rightUpper);
        if (order >= 0) {
            result.upper.becomeDifference(leftUpper, rightUpper);
        } else {
            result.upper.becomeDifference(rightUpper, leftUpper);
        }
        result.signum = leftSignum * order;
    }

    /**
     * The result becomes left times upper over lower. What is common is taken
     * out crosswise before multiplying, and then nothing common is left.
     */
    private void multiply(Fraction left, int signum, Natural upper, Natural lower) {
        leftUpper.become(left.upper);
        rightLower.become(lower);
        reducer.reduce(leftUpper, rightLower);
        rightUpper.become(upper);
        leftLower.become(left.lower);
        reducer.reduce(rightUpper, leftLower);
        result.upper.becomeProduct(leftUpper, rightUpper);
        result.lower.becomeProduct(leftLower, rightLower);
        result.signum = left.signum * signum;
    }

    /**
     * A fraction down to a whole number, or some number that is no int when
     * that is none; the remainder over the fraction's lower number is left.
     */
    private long divideDown(Fraction fraction) {
        remainder.become(fraction.upper);
        remainder.divide(fraction.lower, whole);
        long floor = whole.capped();
        if (fraction.signum >= 0) {
            return floor;
        }
        if (remainder.isZero()) {
            return -floor;
        }
        remainder.becomeDifference(fraction.lower, remainder);
        return -floor - 1;
    }

    /** A fraction in lowest terms; its sign is kept beside its upper number. */
    private static final class Fraction {
        int signum = 0;
        final Natural upper = new Natural();
        final Natural lower = new Natural();

        void become(Fraction other) {
            signum = other.signum;
            upper.become(other.upper);
            lower.become(other.lower);
        }
    }

    /** Takes out of two numbers what divides both. */
    private static final class Reducer {
        /** Far above the steps that numbers of a Natural's size can need, under 1000. */
        private static final int MOST_STEPS = 100000;

        /** The greatest common divisor that was found last. */
        Natural divisor = new Natural();

        private Natural other = new Natural();
        private final Natural quotient = new Natural();

        void reduce(Natural first, Natural second) {
            divisor.become(first);
            other.become(second);
            for (int step = 0; step < MOST_STEPS && !other.isZero(); step++) {
                divisor.divide(other, quotient);
                Natural remainder = divisor;
                divisor = other;
                other = remainder;
            }
            if (!divisor.isOne()) {
                first.divide(divisor, quotient);
                first.become(quotient);
                second.divide(divisor, quotient);
                second.become(quotient);
            }
        }
    }

    /**
     * Seeks the nearest fraction along the convergents. Of all fractions with
     * small enough lower numbers, the next ones on both sides of the number
     * sought are the last convergent and the last fraction on the way from the
     * convergent before it to the one behind it; so one of these two is nearest.
     *
     * The gap of a fraction p / q from x is |q x - p|, times the lower number of x.
     */
    private static final class NearestSearch {
        /** Far above the convergents that lower numbers up to 1000 can have. */
        private static final int MOST_STEPS = 10000;

        long upper = 0;
        long lower = 1;

        private long olderUpper = 1;
        private long olderLower = 0;
        private Natural gap = new Natural();
        private Natural olderGap = new Natural();
        private Natural nextGap = new Natural();
        private final Natural quotient = new Natural();
        private final Natural factor = new Natural();
        private final Natural leftProduct = new Natural();
        private final Natural rightProduct = new Natural();

        /** Leaves in upper and lower the fraction nearest to floor + remainder / divisor. */
        void seek(long floor, Natural remainder, Natural divisor, int most) {
            olderUpper = 1;
            olderLower = 0;
            olderGap.become(divisor);
            upper = floor;
            lower = 1;
            gap.become(remainder);
            boolean moves = true;
            for (int step = 0; step < MOST_STEPS && moves; step++) {
                moves = !gap.isZero() && moveOn(most);
            }
            if (!gap.isZero()) {
                chooseNearer(most);
            }
        }

        /** Goes to the next convergent; false when that one's lower number is too great. */
        private boolean moveOn(int most) {
            nextGap.become(olderGap);
            nextGap.divide(gap, quotient);
            long times = quotient.capped();
            long nextLower = olderLower + times * lower;
            if (nextLower > most) {
                return false;
            }
            long nextUpper = olderUpper + times * upper;
            Natural free = olderGap;
            olderGap = gap;
            gap = nextGap;
            nextGap = free;
            olderUpper = upper;
            olderLower = lower;
            upper = nextUpper;
            lower = nextLower;
            return true;
        }

        /** Between the last convergent and the last small enough fraction on the way to the next. */
        private void chooseNearer(int most) {
            long times = lower < 1 ? 0 : (most - olderLower) / lower;
            long otherUpper = olderUpper + times * upper;
            long otherLower = olderLower + times * lower;
            nextGap.become(olderGap);
            nextGap.takeAway(gap, times);
            if (isBetter(otherUpper, otherLower)) {
                upper = otherUpper;
                lower = otherLower;
            }
        }

        /** Whether the other fraction, with its gap in nextGap, goes before the one held. */
        private boolean isBetter(long otherUpper, long otherLower) {
            factor.become(lower);
            leftProduct.becomeProduct(nextGap, factor);
            factor.become(otherLower);
            rightProduct.becomeProduct(gap, factor);
            int order = leftProduct.compareWith(rightProduct);
            if (order != 0) {
                return order < 0;
            }
            return otherLower != lower ? otherLower < lower : otherUpper < upper;
        }
    }

    /** A whole number from 0 on. Its limbs from length on are always 0. */
    private static final class Natural {
        /**
         * The longest number is the sum of two products of numbers of 8 limbs,
         * 17 limbs; a product is written over as many limbs as its factors have
         * together (17 at most), and dividing looks one limb above the number.
         */
        private static final int CAPACITY = 20;

        private static final int LIMB_BITS = 32;
        private static final long BASE = 1L << LIMB_BITS;
        private static final long MASK = BASE - 1;

        final int[] limbs = new int[CAPACITY];
        int length = 0;

        boolean isZero() {
            return length == 0;
        }

        boolean isOne() {
            return length == 1 && limbs[0] == 1;
        }

        long limb(int i) {
            return i >= 0 && i < CAPACITY ? limbs[i] & MASK : 0;
        }

        /** The number, or 2 ^ 32 in place of every greater one. */
        long capped() {
            return length > 1 ? BASE : limb(0);
        }

        /** Takes a value from 0 to 2 ^ 32 - 1. */
        void become(long value) {
            clear();
            limbs[0] = (int) value;
            trimFrom(1);
        }

        void become(Natural other) {
            for (int i = Math.max(length, other.length) - 1; i >= 0; i--) {
                limbs[i] = other.limbs[i];
            }
            length = other.length;
        }

        int compareWith(Natural other) {
            if (length != other.length) {
                return length < other.length ? -1 : 1;
            }
            for (int i = length - 1; i >= 0; i--) {
                if (limbs[i] != other.limbs[i]) {
                    return limb(i) < other.limb(i) ? -1 : 1;
                }
            }
            return 0;
        }

        void becomeSum(Natural a, Natural b) {
            long carry = 0;
            for (int i = 0; i < CAPACITY; i++) {
                long sum = a.limb(i) + b.limb(i) + carry;
                limbs[i] = (int) sum;
                carry = sum >>> LIMB_BITS;
            }
            trimFrom(CAPACITY);
        }

        /** Of a and b, where a is not the lesser; this number may be one of them. */
        void becomeDifference(Natural a, Natural b) {
            long borrow = 0;
            for (int i = 0; i < CAPACITY; i++) {
                long difference = a.limb(i) - b.limb(i) - borrow;
                limbs[i] = (int) difference;
                borrow = difference < 0 ? 1 : 0;
            }
            trimFrom(CAPACITY);
        }

        /** Of a and b, neither of which is this number. */
        void becomeProduct(Natural a, Natural b) {
            clear();
            for (int i = 0; i < a.length; i++) {
                addMultipleAt(i, b, a.limb(i));
            }
            trimFrom(CAPACITY);
        }

        /** Takes away number times a factor below 2 ^ 32, which is no more than there is. */
        void takeAway(Natural number, long factor) {
            takeAwayAt(0, number, factor);
            trimFrom(length);
        }

        /**
         * This number becomes the remainder, and the quotient is written to
         * another. Long division, Knuth's algorithm D; but only the limbs that a
         * quotient's limb is guessed from are shifted, not the numbers.
         */
        void divide(Natural divisor, Natural quotient) {
            quotient.clear();
            int size = divisor.length;
            if (size == 0 || size > length) {
                return;
            }
            int shift = Integer.numberOfLeadingZeros(divisor.limbs[size - 1]);
            long high = divisor.shiftedLimb(size - 1, shift);
            long low = divisor.shiftedLimb(size - 2, shift);
            for (int place = length - size; place >= 0; place--) {
                long guess = guessQuotient(place + size, shift, high, low);
                if (guess != 0 && takeAwayAt(place, divisor, guess)) {
                    addMultipleAt(place, divisor, 1);
                    guess--;
                }
                quotient.limbs[place] = (int) guess;
            }
            quotient.trimFrom(length - size + 1);
            trimFrom(length);
        }

        /** The quotient's limb or one more, where top is the highest limb that it bears on. */
        private long guessQuotient(int top, int shift, long high, long low) {
            long first = shiftedLimb(top, shift);
            long second = shiftedLimb(top - 1, shift);
            long third = shiftedLimb(top - 2, shift);
            long guess = MASK;
            long left = second + high;
            if (first < high) {
                long pair = (first << LIMB_BITS) | second;
                guess = unsignedQuotient(pair, high);
                left = pair - guess * high;
            }
            for (int step = 0; step < 2 && left < BASE; step++) {
                if (!isBelow((left << LIMB_BITS) | third, guess * low)) {
                    break;
                }
                guess--;
                left += high;
            }
            return guess;
        }

        /** Limb i of this number times 2 ^ shift, shift being below 32. */
        private long shiftedLimb(int i, int shift) {
            // In two steps, as Java would take a shift by 32 for one by 0.
            long fromBelow = (limb(i - 1) >>> 1) >>> (LIMB_BITS - 1 - shift);
            return ((limb(i) << shift) & MASK) | fromBelow;
        }

        /** Takes number times factor away from the limbs from place on; true when they go below 0. */
        private boolean takeAwayAt(int place, Natural number, long factor) {
            long carry = 0;
            long borrow = 0;
            int top = Math.min(place + number.length, CAPACITY - 1);
            for (int i = place; i <= top; i++) {
                long product = factor * number.limb(i - place) + carry;
                long difference = limb(i) - (product & MASK) - borrow;
                limbs[i] = (int) difference;
                carry = product >>> LIMB_BITS;
                borrow = difference < 0 ? 1 : 0;
            }
            return borrow != 0;
        }

        /** Adds number times factor to the limbs from place on, and to the one above them. */
        private void addMultipleAt(int place, Natural number, long factor) {
            long carry = 0;
            int top = Math.min(place + number.length, CAPACITY - 1);
            for (int i = place; i <= top; i++) {
                long sum = factor * number.limb(i - place) + limb(i) + carry;
                limbs[i] = (int) sum;
                carry = sum >>> LIMB_BITS;
            }
        }

        private void clear() {
            for (int i = 0; i < length; i++) {
                limbs[i] = 0;
            }
            length = 0;
        }

        /** Sets the length, knowing that all limbs from most on are 0. */
        private void trimFrom(int most) {
            int size = most;
            while (size > 0 && limbs[size - 1] == 0) {
                size--;
            }
            length = size;
        }

        /** The dividend counts as from 0 to 2 ^ 64 - 1; the divisor is from 1 to 2 ^ 32 - 1. */
        private static long unsignedQuotient(long dividend, long divisor) {
            if (divisor < 1) {
                return 0;
            }
            long even = ((dividend >>> 1) / divisor) << 1;
            return dividend - even * divisor >= divisor ? even + 1 : even;
        }

        private static boolean isBelow(long a, long b) {
            return a + Long.MIN_VALUE < b + Long.MIN_VALUE;
        }
    }
}
