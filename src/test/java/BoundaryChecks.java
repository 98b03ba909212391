import java.math.BigInteger;

/**
 * What the boundary tests share. Each sentence of the document that names a
 * boundary case has a test of its own, a method; the sentence is told when its
 * test fails. Every test makes objects of its own, none of which is called more
 * than 512 times.
 */
abstract class BoundaryChecks {
    static final int LEAST = Integer.MIN_VALUE;
    static final int GREATEST = Integer.MAX_VALUE;
    static final long NONE = Long.MIN_VALUE;
    static final BigInteger ZERO = BigInteger.ZERO;
    static final BigInteger ONE = BigInteger.ONE;
    static final BigInteger TWO = BigInteger.TWO;

    /** Kinds of reckoning, as numbers so that a test can go through all of them. */
    static final int ADD = 0;
    static final int SUB = 1;
    static final int MUL = 2;
    static final int DIV = 3;

    private static String sentence = "";
    private static int wrong = 0;

    static void due(String what, long got, long want) {
        if (got != want) {
            wrong++;
            System.out.println(sentence + "\n    " + what + " answered " + got + ", due is " + want);
        }
    }

    static void due(String what, boolean got, boolean want) {
        due(what, got ? 1 : 0, want ? 1 : 0);
    }

    static void due(String what, String got, String want) {
        if (!got.equals(want)) {
            wrong++;
            System.out.println(sentence + "\n    " + what + " is " + got + ", due is " + want);
        }
    }

    /** An object whose calls are counted, as nothing is promised behind the 512th. */
    static final class Box {
        final int registers;
        final int width;
        private final ContinuedRatios ratios;
        private int calls = 0;

        Box(int registers, int width) {
            this.registers = registers;
            this.width = width;
            ratios = new ContinuedRatios(registers, width);
        }

        ContinuedRatios on() {
            calls++;
            if (calls > 512) {
                throw new IllegalStateException("the test calls one object too often");
            }
            return ratios;
        }

        int reckon(int kind, int d, int a, int b) {
            switch (kind) {
                case ADD: return on().add(d, a, b);
                case SUB: return on().sub(d, a, b);
                case MUL: return on().mul(d, a, b);
                default: return on().div(d, a, b);
            }
        }

        void set(int r, int p, int q) {
            due("set(" + r + ", " + p + ", " + q + ")", on().set(r, p, q), 0);
        }

        /** Register r becomes a whole number from 0 on, by way of registers 6 and 7. */
        void load(int r, BigInteger value) {
            set(r, 0, 1);
            set(7, 65536, 1);
            for (int half = (value.bitLength() + 15) / 16 - 1; half >= 0; half--) {
                due("load", on().mul(r, r, 7), 0);
                set(6, value.shiftRight(16 * half).intValue() & 65535, 1);
                due("load", on().add(r, r, 6), 0);
            }
        }

        /** Register r becomes a fraction, by way of registers 5, 6 and 7. */
        void load(int r, BigInteger upper, BigInteger lower) {
            load(r, upper.abs());
            load(5, lower);
            due("load", on().div(r, r, 5), 0);
            if (upper.signum() < 0) {
                set(5, -1, 1);
                due("load", on().mul(r, r, 5), 0);
            }
        }

        String limbs(int r, boolean upper) {
            BigInteger value = ZERO;
            for (int i = width; i >= 0; i--) {
                int limb = upper ? on().numLimb(r, i) : on().denLimb(r, i);
                value = value.shiftLeft(32).add(BigInteger.valueOf(limb & 0xFFFFFFFFL));
            }
            return value.toString();
        }

        String fraction(int r) {
            return on().sign(r) + " * " + limbs(r, true) + " / " + limbs(r, false);
        }

        void has(String what, int r, BigInteger upper, BigInteger lower) {
            due(what, fraction(r), upper.signum() + " * " + upper.abs() + " / " + lower);
        }

        void has(String what, int r, long upper, long lower) {
            has(what, r, BigInteger.valueOf(upper), BigInteger.valueOf(lower));
        }

        String state() {
            StringBuilder text = new StringBuilder();
            for (int r = 0; r < registers; r++) {
                text.append("[").append(fraction(r)).append("]");
            }
            return text.toString();
        }

        /** The quotients that are left are these, and then none. */
        void leaves(String what, int... quotients) {
            for (int i = 0; i < quotients.length; i++) {
                due(what + ": cfDone before quotient " + i, on().cfDone(), false);
                due(what + ": quotient " + i, on().cfNext(), quotients[i]);
            }
            hasNoneLeft(what);
        }

        void hasNoneLeft(String what) {
            for (int i = 0; i < 2; i++) {
                due(what + ": cfDone behind the last", on().cfDone(), true);
                due(what + ": cfNext behind the last", on().cfNext(), LEAST);
            }
            due(what + ": cfDone behind the last", on().cfDone(), true);
        }

        /** The next quotient does not fit, however often it is asked for. */
        void isStuck(String what) {
            for (int i = 0; i < 3; i++) {
                due(what + ": cfDone where the next does not fit", on().cfDone(), false);
                due(what + ": cfNext where the next does not fit", on().cfNext(), LEAST);
            }
            due(what + ": cfDone where the next does not fit", on().cfDone(), false);
        }

        void start(int r) {
            due("cfStart(" + r + ")", on().cfStart(r), true);
        }

        void best(int r, int most, long upper, long lower) {
            due("best(" + r + ", " + most + ", 0)", on().best(r, most, 0), upper);
            due("best(" + r + ", " + most + ", 1)", on().best(r, most, 1), lower);
        }
    }

    static Box box(int registers, int width) {
        return new Box(registers, width);
    }

    static Box boxOf(int width, int p, int q) {
        Box box = box(8, width);
        box.set(0, p, q);
        return box;
    }

    static Box boxOf(int width, BigInteger p, BigInteger q) {
        Box box = box(8, width);
        box.load(0, p, q);
        return box;
    }

    static BigInteger big(long value) {
        return BigInteger.valueOf(value);
    }

    static BigInteger power(int exponent) {
        return ONE.shiftLeft(exponent);
    }

    /** The greatest number of so many limbs. */
    static BigInteger full(int width) {
        return power(32 * width).subtract(ONE);
    }

    /** Ints that are no register of an object with so many, also those that only look like one in part. */
    static int[] noRegisters(int registers) {
        return new int[] {-1, registers, registers + 1, 8, -8, 256, 65536, LEAST, LEAST + 1, GREATEST};
    }

    /** Registers 0 to 2 have 415/93, -2^31 and 0, of width 1; the quotients 2, 6, 7 of the first are left. */
    static Box begun() {
        Box box = box(3, 1);
        box.set(0, 415, 93);
        box.set(1, LEAST, 1);
        box.start(0);
        due("first quotient", box.on().cfNext(), 4);
        return box;
    }

    /** A fraction, what fits() is due to answer for it, and its whole number if it does. */
    static final class Floor {
        final BigInteger upper;
        final BigInteger lower;
        final boolean fits;
        final int whole;

        Floor(BigInteger upper, BigInteger lower, boolean fits, int whole) {
            this.upper = upper;
            this.lower = lower;
            this.fits = fits;
            this.whole = whole;
        }

        /** Whole + 1 / lower, or less 1 / lower when that is negative. */
        static Floor near(BigInteger whole, long lower, boolean fits, int floor) {
            BigInteger upper = whole.multiply(big(Math.abs(lower))).add(big(Long.signum(lower)));
            return new Floor(upper, big(Math.abs(lower)), fits, floor);
        }

        Box box() {
            return boxOf(8, upper, lower);
        }

        public String toString() {
            return upper + "/" + lower;
        }
    }

    static Floor[] floors() {
        BigInteger least = big(LEAST);
        BigInteger beyond = power(31);
        return new Floor[] {
            new Floor(least, ONE, true, LEAST), new Floor(beyond, ONE, false, 0),
            new Floor(least.subtract(ONE), ONE, false, 0), new Floor(big(GREATEST), ONE, true, GREATEST),
            Floor.near(least, 3, true, LEAST), Floor.near(least, -3, false, 0),
            Floor.near(least, 1L << 62, true, LEAST), Floor.near(least, -(1L << 62), false, 0),
            Floor.near(beyond, 3, false, 0), Floor.near(beyond, -3, true, GREATEST),
            Floor.near(beyond, 1L << 62, false, 0), Floor.near(beyond, -(1L << 62), true, GREATEST),
            Floor.near(ZERO, 1L << 62, true, 0), Floor.near(ZERO, -(1L << 62), true, -1),
            Floor.near(big(-4), 2, true, -4), Floor.near(big(-4), -2, true, -5), Floor.near(big(4), -2, true, 3),
            new Floor(power(32), ONE, false, 0), new Floor(power(32).add(big(5)), ONE, false, 0),
            new Floor(power(32).subtract(ONE), ONE, false, 0), new Floor(power(64).add(big(5)), ONE, false, 0),
            new Floor(power(32).negate(), ONE, false, 0), new Floor(power(32).add(big(5)).negate(), ONE, false, 0),
            new Floor(power(64).add(big(5)).negate(), ONE, false, 0), Floor.near(power(32).negate(), 7, false, 0),
            Floor.near(power(32).negate(), -7, false, 0), Floor.near(power(64), 7, false, 0),
            new Floor(full(8), ONE, false, 0), new Floor(full(8).negate(), ONE, false, 0),
            new Floor(full(8), full(8).subtract(ONE), true, 1), new Floor(full(8).subtract(ONE), full(8), true, 0),
            new Floor(ONE.subtract(full(8)), full(8), true, -1), new Floor(full(8).negate(), full(8).subtract(ONE), true, -2),
            new Floor(full(8), full(7), false, 0), new Floor(full(8), power(225), true, GREATEST),
            new Floor(full(8), power(225).subtract(ONE), false, 0), new Floor(full(8).negate(), power(225), true, LEAST)
        };
    }

    static void check(String words, Runnable test) {
        sentence = words;
        try {
            test.run();
        } catch (RuntimeException thrown) {
            wrong++;
            System.out.println(sentence + "\n    " + thrown);
        }
    }

    static void end() {
        System.out.println(wrong == 0 ? "all boundaries are kept" : wrong + " answers are not as due");
        if (wrong != 0) {
            System.exit(1);
        }
    }
}
