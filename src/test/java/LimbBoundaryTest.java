/** The boundaries of promises 13 to 15: numLimb, denLimb, sign. */
public final class LimbBoundaryTest extends BoundaryChecks {
    private static final int[] NO_LIMBS = {-1, -2, -8, -32, 8, 9, 15, 16, 17, 19, 20, 21, 31, 32, 64, 256, 1 << 27, 1 << 29,
        LEAST, LEAST + 1, GREATEST, GREATEST - 1};

    private static void numLimbIs0ForNoLimb() {
        for (int width = 1; width <= 8; width++) {
            Box box = boxOf(width, full(width), ONE);
            for (int i = 0; i < 12; i++) {
                due("limb " + i + " of " + width, box.on().numLimb(0, i), i < width ? -1 : 0);
            }
            for (int i : NO_LIMBS) {
                due("limb " + i + " of " + width, box.on().numLimb(0, i), 0);
            }
        }
        due("limb 0 of 0", box(1, 8).on().numLimb(0, 0), 0);
    }

    private static void denLimbIs0ForNoLimb() {
        for (int width = 1; width <= 8; width++) {
            Box box = boxOf(width, ONE, full(width));
            for (int i = 0; i < 12; i++) {
                due("limb " + i + " of " + width, box.on().denLimb(0, i), i < width ? -1 : 0);
            }
            for (int i : NO_LIMBS) {
                due("limb " + i + " of " + width, box.on().denLimb(0, i), 0);
            }
        }
    }

    private static void limbsAre0ForNoRegister() {
        Box box = box(3, 1);
        for (int r = 0; r < 3; r++) {
            box.set(r, 7, 2);
        }
        for (int r : noRegisters(3)) {
            for (int i = -1; i < 3; i++) {
                due("numLimb(" + r + ", " + i + ")", box.on().numLimb(r, i), 0);
                due("denLimb(" + r + ", " + i + ")", box.on().denLimb(r, i), 0);
            }
        }
        due("numLimb of the last", box.on().numLimb(2, 0), 7);
        due("denLimb of the last", box.on().denLimb(2, 0), 2);
    }

    private static void upperLimbsAreWithoutTheSign() {
        Box box = boxOf(2, -5, 3);
        due("limb 0 of -5/3", box.on().numLimb(0, 0), 5);
        due("limb 1 of -5/3", box.on().numLimb(0, 1), 0);
        box.set(0, LEAST, 1);
        due("limb 0 of -2^31", box.on().numLimb(0, 0), LEAST);
        due("limb 1 of -2^31", box.on().numLimb(0, 1), 0);
        due("add", box.on().add(0, 0, 0), 0);
        due("limb 0 of -2^32", box.on().numLimb(0, 0), 0);
        due("limb 1 of -2^32", box.on().numLimb(0, 1), 1);
    }

    /** A number that had more limbs leaves none of them behind. */
    private static void limbsOfAShorterNumberAreItsOwn() {
        Box box = boxOf(8, full(8), full(8).subtract(ONE));
        box.set(0, -5, 7);
        box.has("shorter", 0, -5, 7);
        box.load(0, full(8), full(8).subtract(ONE));
        due("sub", box.on().sub(0, 0, 0), 0);
        box.has("0", 0, 0, 1);
    }

    private static void signIsThatOfTheFraction() {
        int[][] rows = {{0, 1, 0}, {0, -1, 0}, {0, LEAST, 0}, {1, 1, 1}, {1, -1, -1}, {-1, 1, -1}, {-1, -1, 1},
            {LEAST, 1, -1}, {LEAST, LEAST, 1}, {1, LEAST, -1}, {-1, GREATEST, -1}, {1, GREATEST, 1}};
        Box box = box(1, 1);
        for (int[] row : rows) {
            box.set(0, row[0], row[1]);
            due("sign of " + row[0] + "/" + row[1], box.on().sign(0), row[2]);
        }
        Box large = boxOf(8, full(8).negate(), ONE);
        due("sign of the least", large.on().sign(0), -1);
        due("sub", large.on().sub(0, 1, 0), 0);
        due("sign of the greatest", large.on().sign(0), 1);
    }

    private static void signIs0ForNoRegister() {
        Box box = box(3, 1);
        for (int r = 0; r < 3; r++) {
            box.set(r, -7, 2);
        }
        due("sign of the last", box.on().sign(2), -1);
        for (int r : noRegisters(3)) {
            due("sign(" + r + ")", box.on().sign(r), 0);
        }
    }

    public static void main(String[] args) {
        check("13: 0 when there is none such (limb)", LimbBoundaryTest::numLimbIs0ForNoLimb);
        check("14: 0 when there is none such (limb)", LimbBoundaryTest::denLimbIs0ForNoLimb);
        check("13, 14: 0 when there is none such (register)", LimbBoundaryTest::limbsAre0ForNoRegister);
        check("13: without its sign", LimbBoundaryTest::upperLimbsAreWithoutTheSign);
        check("13, 14: limb i of a register's number", LimbBoundaryTest::limbsOfAShorterNumberAreItsOwn);
        check("15: -1, 0, 1 by a register's fraction", LimbBoundaryTest::signIsThatOfTheFraction);
        check("15: 0 when there is none such", LimbBoundaryTest::signIs0ForNoRegister);
        end();
    }
}
