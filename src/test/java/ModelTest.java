import java.math.BigInteger;
import java.util.Random;

/**
 * Runs of calls against a plain model with BigIntegers, the same runs every
 * time: mixed calls, some of them wrong, and numbers with limbs that are hard
 * to divide. No object has more than 512 calls.
 */
public final class ModelTest {
    private static final BigInteger ONE = BigInteger.ONE;
    private static final BigInteger ZERO = BigInteger.ZERO;
    private static final BigInteger LEAST_INT = BigInteger.valueOf(Integer.MIN_VALUE);
    private static final BigInteger GREATEST_INT = BigInteger.valueOf(Integer.MAX_VALUE);
    private static final int[] EDGES = {
        0, 1, -1, 2, -2, 3, 7, 65535, 65536, 65537, 1 << 30, Integer.MAX_VALUE, Integer.MAX_VALUE - 1,
        Integer.MIN_VALUE, Integer.MIN_VALUE + 1, 360360, 223092870, 1 << 20, 3 << 29
    };
    private static final long[] HARD_LIMBS = {
        0, 0, 1, 2, 0xFFFFFFFFL, 0xFFFFFFFFL, 0xFFFFFFFEL, 0x80000000L, 0x80000001L, 0x7FFFFFFFL, 0x40000000L
    };

    private static int wrong = 0;

    /** What the document says, in its own order and words, and with no care for speed. */
    private static final class Model {
        final int width;
        final BigInteger[] upper;
        final BigInteger[] lower;
        BigInteger restUpper = ZERO;
        BigInteger restLower = ZERO;

        Model(int registers, int width) {
            this.width = width < 1 || width > 8 ? 1 : width;
            upper = new BigInteger[registers < 1 || registers > 8 ? 1 : registers];
            lower = new BigInteger[upper.length];
            for (int r = 0; r < upper.length; r++) {
                upper[r] = ZERO;
                lower[r] = ONE;
            }
        }

        boolean has(int r) {
            return r >= 0 && r < upper.length;
        }

        int put(int d, BigInteger p, BigInteger q) {
            BigInteger g = p.gcd(q);
            if (q.signum() < 0) {
                g = g.negate();
            }
            BigInteger n = p.divide(g);
            BigInteger m = q.divide(g);
            if (n.abs().bitLength() > 32 * width || m.bitLength() > 32 * width) {
                return 1;
            }
            upper[d] = n;
            lower[d] = m;
            return 0;
        }

        int set(int r, int p, int q) {
            return !has(r) ? 3 : q == 0 ? 2 : put(r, BigInteger.valueOf(p), BigInteger.valueOf(q));
        }

        int reckon(int kind, int d, int a, int b) {
            if (!has(d) || !has(a) || !has(b)) {
                return 3;
            }
            BigInteger straight = upper[a].multiply(lower[b]);
            BigInteger across = upper[b].multiply(lower[a]);
            BigInteger below = lower[a].multiply(lower[b]);
            switch (kind) {
                case 0: return put(d, straight.add(across), below);
                case 1: return put(d, straight.subtract(across), below);
                case 2: return put(d, upper[a].multiply(upper[b]), below);
                default: return upper[b].signum() == 0 ? 2 : put(d, straight, across);
            }
        }

        int cmp(int a, int b) {
            return !has(a) || !has(b) ? 2 : upper[a].multiply(lower[b]).compareTo(upper[b].multiply(lower[a]));
        }

        static BigInteger floor(BigInteger p, BigInteger q) {
            return p.subtract(p.mod(q)).divide(q);
        }

        boolean fits(int r) {
            if (!has(r)) {
                return false;
            }
            BigInteger whole = floor(upper[r], lower[r]);
            return whole.compareTo(LEAST_INT) >= 0 && whole.compareTo(GREATEST_INT) <= 0;
        }

        int floorSmall(int r) {
            return fits(r) ? floor(upper[r], lower[r]).intValueExact() : 0;
        }

        boolean cfStart(int r) {
            if (has(r)) {
                restUpper = upper[r];
                restLower = lower[r];
            }
            return has(r);
        }

        int cfNext() {
            if (restLower.signum() == 0) {
                return Integer.MIN_VALUE;
            }
            BigInteger whole = floor(restUpper, restLower);
            if (whole.compareTo(LEAST_INT) <= 0 || whole.compareTo(GREATEST_INT) > 0) {
                return Integer.MIN_VALUE;
            }
            BigInteger left = restUpper.mod(restLower);
            restUpper = restLower;
            restLower = left;
            return whole.intValueExact();
        }

        boolean cfDone() {
            return restLower.signum() == 0;
        }

        int limb(BigInteger[] numbers, int r, int i) {
            return !has(r) || i < 0 || i > 100 ? 0 : numbers[r].abs().shiftRight(32 * i).intValue();
        }

        int sign(int r) {
            return has(r) ? upper[r].signum() : 0;
        }

        /** Tries every lower number, with the whole numbers on both sides as upper ones. */
        long best(int r, int most, int part) {
            if (!fits(r) || most < 1 || most > 1000 || part < 0 || part > 1) {
                return Long.MIN_VALUE;
            }
            BigInteger bestGap = null;
            long bestUpper = 0;
            long bestLower = 0;
            for (int q = 1; q <= most; q++) {
                BigInteger big = upper[r].multiply(BigInteger.valueOf(q));
                BigInteger under = floor(big, lower[r]);
                for (int more = 0; more < 2; more++) {
                    BigInteger p = under.add(BigInteger.valueOf(more));
                    BigInteger gap = big.subtract(p.multiply(lower[r])).abs();
                    boolean nearer = bestGap == null || gap.multiply(BigInteger.valueOf(bestLower))
                        .compareTo(bestGap.multiply(BigInteger.valueOf(q))) < 0;
                    if (nearer) {
                        bestGap = gap;
                        bestUpper = p.longValueExact();
                        bestLower = q;
                    }
                }
            }
            return part == 0 ? bestUpper : bestLower;
        }
    }

    /** One object and its model, which are asked the same. */
    private static final class Pair {
        final String name;
        final ContinuedRatios real;
        final Model model;
        int calls = 0;

        Pair(String name, int registers, int width) {
            this.name = name + " (" + registers + ", " + width + ")";
            real = new ContinuedRatios(registers, width);
            model = new Model(registers, width);
        }

        void due(String call, long got, long want) {
            calls++;
            if (got != want || calls > 512) {
                wrong++;
                System.out.println(name + " call " + calls + ": " + call + " answered " + got + ", due is " + want);
            }
        }

        void set(int r, int p, int q) {
            due("set " + r + " " + p + " " + q, real.set(r, p, q), model.set(r, p, q));
        }

        void reckon(int kind, int d, int a, int b) {
            int got;
            switch (kind) {
                case 0: got = real.add(d, a, b); break;
                case 1: got = real.sub(d, a, b); break;
                case 2: got = real.mul(d, a, b); break;
                default: got = real.div(d, a, b); break;
            }
            due("add sub mul div".substring(4 * kind, 4 * kind + 3) + " " + d + " " + a + " " + b,
                got, model.reckon(kind, d, a, b));
        }

        void cmp(int a, int b) {
            due("cmp " + a + " " + b, real.cmp(a, b), model.cmp(a, b));
        }

        void floor(int r) {
            due("fits " + r, real.fits(r) ? 1 : 0, model.fits(r) ? 1 : 0);
            due("floorSmall " + r, real.floorSmall(r), model.floorSmall(r));
        }

        void cfStart(int r) {
            due("cfStart " + r, real.cfStart(r) ? 1 : 0, model.cfStart(r) ? 1 : 0);
        }

        void cfNext() {
            due("cfNext", real.cfNext(), model.cfNext());
            due("cfDone", real.cfDone() ? 1 : 0, model.cfDone() ? 1 : 0);
        }

        void limbs(int r, int i) {
            due("numLimb " + r + " " + i, real.numLimb(r, i), model.limb(model.upper, r, i));
            due("denLimb " + r + " " + i, real.denLimb(r, i), model.limb(model.lower, r, i));
        }

        void whole(int r) {
            due("sign " + r, real.sign(r), model.sign(r));
            for (int i = 0; i <= model.width; i++) {
                limbs(r, i);
            }
        }

        void best(int r, int most) {
            due("best " + r + " " + most + " 0", real.best(r, most, 0), model.best(r, most, 0));
            due("best " + r + " " + most + " 1", real.best(r, most, 1), model.best(r, most, 1));
        }
    }

    private static int number(Random random) {
        switch (random.nextInt(4)) {
            case 0: return EDGES[random.nextInt(EDGES.length)];
            case 1: return random.nextInt(41) - 20;
            case 2: return random.nextInt() >> random.nextInt(32);
            default: return random.nextInt();
        }
    }

    private static int register(Random random, int registers) {
        return random.nextInt(40) == 0 ? number(random) : random.nextInt(Math.max(1, registers));
    }

    private static int most(Random random) {
        switch (random.nextInt(4)) {
            case 0: return 1 + random.nextInt(5);
            case 1: return 990 + random.nextInt(13);
            case 2: return random.nextInt(30) == 0 ? number(random) : 1 + random.nextInt(60);
            default: return 1 + random.nextInt(1000);
        }
    }

    private static void mixedRun(int seed) {
        Random random = new Random(seed);
        int registers = random.nextInt(20) == 0 ? number(random) : 1 + random.nextInt(8);
        int width = random.nextInt(20) == 0 ? number(random) : 1 + random.nextInt(8);
        Pair pair = new Pair("mixed " + seed, registers, width);
        int count = pair.model.upper.length;
        int sets = 1 + random.nextInt(6);
        while (pair.calls < 490) {
            int kind = random.nextInt(20);
            int a = register(random, count);
            int b = register(random, count);
            if (kind < sets) {
                pair.set(a, number(random), number(random));
            } else if (kind < 13) {
                int d = register(random, count);
                pair.reckon(random.nextInt(4), d, a, b);
                if (random.nextInt(6) == 0) {
                    pair.whole(d);
                }
            } else if (kind == 13) {
                pair.cmp(a, b);
            } else if (kind == 14) {
                pair.floor(a);
            } else if (kind == 15) {
                pair.cfStart(a);
            } else if (kind < 18) {
                pair.cfNext();
            } else if (kind == 18) {
                pair.limbs(a, random.nextInt(10) == 0 ? number(random) : random.nextInt(10) - 1);
            } else if (random.nextInt(4) == 0) {
                pair.best(a, most(random));
            }
        }
    }

    private static BigInteger hardNumber(Random random, int limbs) {
        BigInteger value = ZERO;
        for (int i = 0; i < limbs; i++) {
            boolean hard = random.nextInt(4) != 0;
            long limb = hard ? HARD_LIMBS[random.nextInt(HARD_LIMBS.length)] : random.nextInt() & 0xFFFFFFFFL;
            value = value.shiftLeft(32).add(BigInteger.valueOf(limb));
        }
        return value.signum() == 0 ? ONE : value;
    }

    /** Register r becomes a long whole number, by way of registers 6 and 7. */
    private static void load(Pair pair, int r, BigInteger value) {
        pair.set(r, 0, 1);
        pair.set(7, 65536, 1);
        for (int half = (value.bitLength() + 15) / 16 - 1; half >= 0; half--) {
            pair.reckon(2, r, r, 7);
            pair.set(6, value.shiftRight(16 * half).intValue() & 65535, 1);
            pair.reckon(0, r, r, 6);
        }
    }

    /** Long numbers: their quotient, its continued fraction, and reckoning with it. */
    private static void hardRun(int seed) {
        Random random = new Random(seed);
        Pair pair = new Pair("hard " + seed, 8, 8);
        load(pair, 0, hardNumber(random, 1 + random.nextInt(8)));
        load(pair, 1, hardNumber(random, 1 + random.nextInt(8)));
        pair.reckon(3, 2, 0, 1);
        pair.whole(2);
        pair.floor(2);
        pair.best(2, most(random));
        pair.cfStart(2);
        pair.set(3, number(random), number(random));
        for (int kind = 0; kind < 4; kind++) {
            pair.reckon(kind, 4, 2, 3);
            pair.reckon(kind, 5, 4, 2);
            pair.cmp(4, 5);
            pair.whole(5);
        }
        while (pair.calls < 500) {
            pair.cfNext();
        }
    }

    /** Two numbers with much in common: a product of two, over a product of one of them with a third. */
    private static void commonRun(int seed) {
        Random random = new Random(seed);
        Pair pair = new Pair("common " + seed, 8, 8);
        int size = 1 + random.nextInt(7);
        BigInteger common = hardNumber(random, size);
        load(pair, 0, hardNumber(random, 1 + random.nextInt(8 - size)).multiply(common));
        load(pair, 1, hardNumber(random, 1 + random.nextInt(8 - size)).multiply(common));
        pair.reckon(3, 2, 0, 1);
        pair.whole(2);
        pair.reckon(3, 3, 1, 0);
        pair.reckon(2, 4, 2, 3);
        pair.whole(4);
        pair.set(5, number(random), number(random));
        pair.reckon(3, 4, 5, 1);
        pair.reckon(3, 5, 2, 0);
        for (int kind = 0; kind < 4; kind++) {
            pair.reckon(kind, 6, 4, 5);
            pair.whole(6);
            pair.reckon(kind, 7, 5, 4);
            pair.cmp(6, 7);
        }
    }

    /** All small fractions, also next to those that are as near to one side as to the other. */
    private static void bestRuns() {
        for (int q = 1; q <= 24; q++) {
            for (int p = -q - 3; p <= q + 3; p++) {
                Pair pair = new Pair("best " + p + " / " + q, 1, 1);
                pair.set(0, p, q);
                for (int most = 1; most <= q + 1; most++) {
                    pair.best(0, most);
                }
            }
        }
        Random random = new Random(16);
        for (int run = 0; run < 300; run++) {
            Pair pair = new Pair("halfway " + run, 3, 2);
            int q = 1 + random.nextInt(1000);
            int m = 1 + random.nextInt(1000);
            pair.set(0, random.nextInt(q + 1), q);
            pair.set(1, random.nextInt(m + 1), m);
            pair.reckon(0, 0, 0, 1);
            pair.set(1, 1, 2);
            pair.reckon(2, 0, 0, 1);
            pair.best(0, Math.max(q, m));
            pair.best(0, most(random));
        }
    }

    public static void main(String[] args) {
        for (int seed = 0; seed < 1500; seed++) {
            mixedRun(seed);
        }
        for (int seed = 0; seed < 1500; seed++) {
            hardRun(seed);
            commonRun(seed);
        }
        bestRuns();
        System.out.println(wrong == 0 ? "all answers are the model's" : wrong + " answers are not the model's");
        if (wrong != 0) {
            System.exit(1);
        }
    }
}
