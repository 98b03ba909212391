import java.math.BigInteger;

/** What the document's "What it is" and "Terms" say of fractions, registers, limbs and room. */
public final class TermsBoundaryTest extends BoundaryChecks {
    private static void the512thCallIsAnsweredAsTheFirst() {
        Box sums = box(2, 8);
        sums.set(1, 1, 3);
        for (int call = 1; call < 510; call++) {
            due("call " + (call + 1), sums.on().add(0, 0, 1), 0);
        }
        due("call 511", sums.on().floorSmall(0), 509 / 3);
        due("call 512", sums.on().best(0, 1000, 0), 509);
        Box tooLong = box(1, 1);
        tooLong.set(0, GREATEST, 2);
        for (int call = 2; call <= 511; call++) {
            due("call " + call, tooLong.on().mul(0, 0, 0), 1);
        }
        due("call 512", tooLong.on().numLimb(0, 0), GREATEST);
        Box starts = box(1, 1);
        starts.set(0, -5, 3);
        for (int call = 2; call < 512; call += 2) {
            due("call " + call, starts.on().cfStart(0), true);
            due("call " + (call + 1), starts.on().cfNext(), -2);
        }
        due("call 512", starts.on().cfNext(), 3);
    }

    private static void registersAreFrom0ToRLess1() {
        for (int registers = 1; registers <= 8; registers++) {
            Box box = box(registers, 1);
            for (int r = 0; r < registers; r++) {
                box.set(r, r + 1, 9 + r);
            }
            for (int r : noRegisters(registers)) {
                if (r < 0 || r >= registers) {
                    due("set(" + r + ") of " + registers, box.on().set(r, 1, 2), 3);
                }
            }
            for (int r = 0; r < registers; r++) {
                int divisor = big(r + 1).gcd(big(9 + r)).intValue();
                box.has("register " + r + " of " + registers, r, (r + 1) / divisor, (9 + r) / divisor);
            }
        }
    }

    private static void fractionsAreInLowestTerms() {
        Box box = box(3, 2);
        box.set(0, 6, 4);
        box.has("6/4", 0, 3, 2);
        box.set(0, GREATEST, -GREATEST);
        box.has("the greatest over itself with another sign", 0, -1, 1);
        box.set(0, 1 << 30, LEAST);
        box.has("2^30 over -2^31", 0, -1, 2);
        box.set(0, 1, 6);
        box.set(1, 1, 3);
        int[][] rows = {{ADD, 1, 2}, {SUB, -1, 6}, {MUL, 1, 18}, {DIV, 1, 2}};
        for (int[] row : rows) {
            due("kind " + row[0], box.reckon(row[0], 2, 0, 1), 0);
            box.has("1/6 and 1/3, kind " + row[0], 2, row[1], row[2]);
        }
        box.set(0, 6, 35);
        box.set(1, 14, 15);
        due("mul", box.on().mul(2, 0, 1), 0);
        box.has("6/35 * 14/15", 2, 4, 25);
    }

    private static void longFractionsAreInLowestTerms() {
        for (int width = 2; width <= 8; width++) {
            BigInteger common = full(width - 1);
            Box box = boxOf(width, common.multiply(big(1000003)), common.multiply(big(65537)));
            box.has("width " + width, 0, 1000003, 65537);
        }
    }

    private static void aFractionOf0Is0Over1() {
        Box box = box(3, 1);
        for (int q : new int[] {LEAST, -7, -1, 1, 7, GREATEST}) {
            box.set(0, 0, q);
            box.has("0/" + q, 0, 0, 1);
        }
        box.set(1, -5, 7);
        due("sub", box.on().sub(2, 1, 1), 0);
        box.has("x - x", 2, 0, 1);
        due("mul", box.on().mul(2, 0, 1), 0);
        box.has("0 * x", 2, 0, 1);
        due("mul", box.on().mul(2, 1, 0), 0);
        box.has("x * 0", 2, 0, 1);
        due("div", box.on().div(2, 0, 1), 0);
        box.has("0 : x", 2, 0, 1);
        due("add", box.on().add(2, 0, 0), 0);
        box.has("0 + 0", 2, 0, 1);
    }

    private static void lowerNumbersAreAbove0() {
        Box box = box(3, 1);
        box.set(0, 3, -4);
        box.has("3/-4", 0, -3, 4);
        box.set(0, -3, -4);
        box.has("-3/-4", 0, 3, 4);
        box.set(0, 1, LEAST);
        box.has("1/-2^31", 0, -1, 2147483648L);
        box.set(0, LEAST, LEAST);
        box.has("-2^31/-2^31", 0, 1, 1);
        box.set(0, 5, 2);
        box.set(1, -3, 1);
        due("div", box.on().div(2, 0, 1), 0);
        box.has("5/2 : -3", 2, -5, 6);
        due("div", box.on().div(2, 2, 1), 0);
        box.has("-5/6 : -3", 2, 5, 18);
    }

    private static void registersHave0Over1AtFirst() {
        for (int registers = 1; registers <= 8; registers++) {
            Box box = box(registers, 2);
            for (int r = 0; r < registers; r++) {
                box.has("register " + r + " of " + registers, r, 0, 1);
                due("fits", box.on().fits(r), true);
                due("cmp", box.on().cmp(r, 0), 0);
            }
        }
    }

    private static void limbsAreDigitsTheLowestFirstAsInts() {
        long[] numbers = {1, 2147483647L, 2147483648L, 4294967295L, 4294967296L, 4294967297L, 0x123456789ABCDEFL,
            0xFFFFFFFF00000000L, 0x80000000FFFFFFFFL, 0xFFFFFFFFFFFFFFFFL};
        for (long number : numbers) {
            BigInteger value = big(number).and(full(2));
            Box box = boxOf(2, value, ONE);
            due("low limb of upper " + value, box.on().numLimb(0, 0), (int) number);
            due("high limb of upper " + value, box.on().numLimb(0, 1), (int) (number >>> 32));
            box.set(1, 1, 1);
            due("turn", box.on().div(0, 1, 0), 0);
            due("low limb of lower " + value, box.on().denLimb(0, 0), (int) number);
            due("high limb of lower " + value, box.on().denLimb(0, 1), (int) (number >>> 32));
        }
        Box box = boxOf(8, power(224).multiply(big(8)).add(power(32).multiply(big(2))), ONE);
        for (int i = 0; i < 8; i++) {
            due("limb " + i + " of 8", box.on().numLimb(0, i), i == 7 ? 8 : i == 1 ? 2 : 0);
        }
    }

    private static void upperNumbersHaveRoomInWidthLimbs() {
        for (int width = 1; width <= 8; width++) {
            BigInteger full = full(width);
            Box box = boxOf(width, full.subtract(ONE), ONE);
            box.set(1, 1, 1);
            due("add up to the greatest", box.on().add(2, 0, 1), 0);
            box.has("greatest of width " + width, 2, full, ONE);
            due("add one more", box.on().add(2, 2, 1), 1);
            box.has("still greatest of width " + width, 2, full, ONE);
            due("sub down to 0 less the greatest", box.on().sub(3, 4, 2), 0);
            box.has("least of width " + width, 3, full.negate(), ONE);
            due("sub one more", box.on().sub(3, 3, 1), 1);
            box.has("still least of width " + width, 3, full.negate(), ONE);
        }
    }

    /** By factors of about half the limbs: (m - 1) (m + 1) has just room, and m m has not. */
    private static void upperProductsHaveRoomInWidthLimbs() {
        for (int width = 1; width <= 8; width++) {
            BigInteger m = power(16 * width);
            Box box = boxOf(width, m.subtract(ONE), ONE);
            box.load(1, m.add(ONE));
            box.load(2, m);
            box.set(4, -1, 1);
            due("mul to the greatest", box.on().mul(3, 0, 1), 0);
            box.has("greatest of width " + width, 3, full(width), ONE);
            due("mul to one more", box.on().mul(3, 2, 2), 1);
            due("negative mul", box.on().mul(2, 2, 4), 0);
            due("mul to one more", box.on().mul(3, 2, 2), 1);
            due("turn", box.on().div(1, 4, 1), 0);
            due("div to the least", box.on().div(3, 0, 1), 0);
            box.has("least of width " + width, 3, full(width).negate(), ONE);
            due("turn", box.on().div(0, 4, 2), 0);
            due("div to one less", box.on().div(3, 2, 0), 1);
            box.has("still least of width " + width, 3, full(width).negate(), ONE);
        }
    }

    private static void lowerProductsHaveRoomInWidthLimbs() {
        for (int width = 1; width <= 8; width++) {
            BigInteger m = power(16 * width);
            Box box = boxOf(width, ONE, m.subtract(ONE));
            box.load(1, m.add(ONE));
            box.load(2, ONE, m);
            box.load(4, m);
            due("div to the greatest", box.on().div(3, 0, 1), 0);
            box.has("1 over the greatest of width " + width, 3, ONE, full(width));
            due("div to one more", box.on().div(3, 2, 4), 1);
            due("mul to one more", box.on().mul(3, 2, 2), 1);
            box.has("still 1 over the greatest of width " + width, 3, ONE, full(width));
            box.set(3, 1, 1);
            due("turn", box.on().div(1, 3, 1), 0);
            due("mul to the greatest", box.on().mul(3, 0, 1), 0);
            box.has("1 over the greatest of width " + width, 3, ONE, full(width));
        }
    }

    private static void lowerNumbersOfSumsHaveRoomInWidthLimbs() {
        for (int width = 1; width <= 8; width++) {
            BigInteger m = power(16 * width);
            Box box = boxOf(width, ONE, m.subtract(ONE));
            box.load(1, ONE, m.add(ONE));
            box.load(2, ONE, m);
            due("add to the greatest", box.on().add(3, 0, 1), 0);
            box.has("sum of width " + width, 3, m.shiftLeft(1), full(width));
            due("add to more", box.on().add(3, 1, 2), 1);
            box.has("still the sum of width " + width, 3, m.shiftLeft(1), full(width));
            due("sub to the greatest", box.on().sub(3, 1, 0), 0);
            box.has("difference of width " + width, 3, TWO.negate(), full(width));
            due("sub to more", box.on().sub(3, 2, 1), 1);
            box.has("still the difference of width " + width, 3, TWO.negate(), full(width));
        }
    }

    /** What is longer before it is in lowest terms has room all the same. */
    private static void roomIsForTheFractionInLowestTerms() {
        for (int width = 1; width <= 8; width++) {
            BigInteger full = full(width);
            Box box = boxOf(width, full, TWO);
            due("add", box.on().add(1, 0, 0), 0);
            box.has("halves of width " + width, 1, full, ONE);
            due("sub", box.on().sub(1, 0, 0), 0);
            box.has("x - x of width " + width, 1, ZERO, ONE);
            box = boxOf(width, full, full.subtract(ONE));
            box.load(1, full.subtract(ONE), full);
            due("mul", box.on().mul(2, 0, 1), 0);
            box.has("x * 1/x of width " + width, 2, ONE, ONE);
            due("div", box.on().div(2, 0, 0), 0);
            box.has("x : x of width " + width, 2, ONE, ONE);
            due("sub", box.on().sub(2, 1, 1), 0);
            box.has("y - y of width " + width, 2, ZERO, ONE);
            box.load(2, full.subtract(TWO), full.subtract(ONE));
            due("sub", box.on().sub(2, 0, 2), 0);
            box.has("difference of likes of width " + width, 2, ONE, full.shiftRight(1));
        }
    }

    public static void main(String[] args) {
        check("What it is: at most 512 calls", TermsBoundaryTest::the512thCallIsAnsweredAsTheFirst);
        check("Terms: a register, 0 .. R - 1", TermsBoundaryTest::registersAreFrom0ToRLess1);
        check("Terms: in lowest terms", TermsBoundaryTest::fractionsAreInLowestTerms);
        check("Terms: in lowest terms (long numbers)", TermsBoundaryTest::longFractionsAreInLowestTerms);
        check("Terms: in lowest terms (0)", TermsBoundaryTest::aFractionOf0Is0Over1);
        check("Terms: the lower number above 0", TermsBoundaryTest::lowerNumbersAreAbove0);
        check("Terms: 0 over 1 at first", TermsBoundaryTest::registersHave0Over1AtFirst);
        check("Terms: limbs", TermsBoundaryTest::limbsAreDigitsTheLowestFirstAsInts);
        check("Terms: room (upper numbers of sums)", TermsBoundaryTest::upperNumbersHaveRoomInWidthLimbs);
        check("Terms: room (upper numbers of products)", TermsBoundaryTest::upperProductsHaveRoomInWidthLimbs);
        check("Terms: room (lower numbers of products)", TermsBoundaryTest::lowerProductsHaveRoomInWidthLimbs);
        check("Terms: room (lower numbers of sums)", TermsBoundaryTest::lowerNumbersOfSumsHaveRoomInWidthLimbs);
        check("Terms: room for a fraction, in lowest terms", TermsBoundaryTest::roomIsForTheFractionInLowestTerms);
        end();
    }
}
