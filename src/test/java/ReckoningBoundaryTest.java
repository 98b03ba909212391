import java.math.BigInteger;

/** The boundaries of promises 1 to 7: a new object, set, add, sub, mul, div, cmp. */
public final class ReckoningBoundaryTest extends BoundaryChecks {
    private static final int[] NO_SIZES = {0, -1, 9, 10, -8, 16, 256 + 8, 65536 + 8, LEAST, LEAST + 8, GREATEST};

    private static final int[] EDGES = {LEAST, LEAST + 1, -2, -1, 0, 1, 2, 1 << 30, GREATEST - 1, GREATEST};

    /** In register 0 alone: 1 is doubled as long as there is room. */
    private static void dueWidth(String what, Box box, int width) {
        box.set(0, 1, 1);
        int doublings = 0;
        while (doublings < 300 && box.on().add(0, 0, 0) == 0) {
            doublings++;
        }
        due(what + ": doublings of 1 with room", doublings, 32 * width - 1);
    }

    private static void dueRegisters(String what, Box box, int registers) {
        for (int r = 0; r < 10; r++) {
            due(what + ": set(" + r + ")", box.on().set(r, 1, 2), r < registers ? 0 : 3);
        }
    }

    private static void registersAndWidthAre1To8() {
        for (int registers = 1; registers <= 8; registers++) {
            for (int width = 1; width <= 8; width++) {
                String what = "new (" + registers + ", " + width + ")";
                Box box = box(registers, width);
                dueRegisters(what, box, registers);
                dueWidth(what, box, width);
            }
        }
    }

    private static void anotherNumberOfRegistersIs1() {
        for (int registers : NO_SIZES) {
            for (int width = 1; width <= 8; width += 7) {
                String what = "new (" + registers + ", " + width + ")";
                Box box = box(registers, width);
                dueRegisters(what, box, 1);
                dueWidth(what, box, width);
            }
        }
    }

    private static void anotherWidthIs1() {
        for (int width : NO_SIZES) {
            for (int registers = 1; registers <= 8; registers += 7) {
                String what = "new (" + registers + ", " + width + ")";
                Box box = box(registers, width);
                dueRegisters(what, box, registers);
                dueWidth(what, box, 1);
            }
        }
        Box both = box(0, 9);
        dueRegisters("new (0, 9)", both, 1);
        dueWidth("new (0, 9)", both, 1);
    }

    private static void aNewObjectHasNoContinuedFractionBegun() {
        for (int size = 0; size <= 9; size++) {
            box(size, size).hasNoneLeft("new (" + size + ", " + size + ")");
        }
        Box box = box(1, 1);
        box.set(0, 7, 3);
        box.hasNoneLeft("a set begins none");
    }

    private static void aNewObjectKnowsNothingOfOthers() {
        Box other = begun();
        Box box = box(3, 1);
        box.hasNoneLeft("new beside another");
        box.has("new beside another", 0, 0, 1);
        box.set(0, 1, 2);
        box.start(0);
        other.has("another", 0, 415, 93);
        other.leaves("another", 2, 6, 7);
        box.leaves("new beside another", 0, 2);
    }

    private static void setTakesAllInts() {
        for (int p : EDGES) {
            for (int q : EDGES) {
                if (q != 0) {
                    BigInteger divisor = big(p).gcd(big(q)).multiply(big(Integer.signum(q)));
                    Box box = box(2, 1);
                    box.set(1, p, q);
                    box.has(p + "/" + q, 1, big(p).divide(divisor), big(q).divide(divisor));
                    box.has("the other register", 0, 0, 1);
                }
            }
        }
    }

    private static void setOver0Answers2() {
        Box box = box(2, 1);
        for (int p : EDGES) {
            for (int r = 0; r < 2; r++) {
                due("set(" + r + ", " + p + ", 0)", box.on().set(r, p, 0), 2);
            }
        }
    }

    private static void setOfNoRegisterAnswers3() {
        Box box = box(2, 1);
        for (int r : noRegisters(2)) {
            due("set(" + r + ", 1, 2)", box.on().set(r, 1, 2), 3);
        }
    }

    private static void setAsksForTheRegisterFirst() {
        Box box = box(2, 1);
        for (int r : noRegisters(2)) {
            due("set(" + r + ", 1, 0)", box.on().set(r, 1, 0), 3);
            due("set(" + r + ", 0, 0)", box.on().set(r, 0, 0), 3);
        }
    }

    /** Answers 3 for each of the three when it is no register, whatever the fractions are. */
    private static void dueNoRegisters(int kind) {
        for (int registers = 1; registers <= 8; registers++) {
            Box box = box(registers, 1);
            int last = registers - 1;
            box.set(last, 1, 2);
            due("the last of " + registers, box.reckon(kind, last, last, last), 0);
            for (int r : noRegisters(registers)) {
                if (r < 0 || r >= registers) {
                    due("to " + r, box.reckon(kind, r, last, last), 3);
                    due("of " + r, box.reckon(kind, last, r, last), 3);
                    due("by " + r, box.reckon(kind, last, last, r), 3);
                    due("all " + r, box.reckon(kind, r, r, r), 3);
                }
            }
        }
    }

    private static void addOfNoRegistersAnswers3() {
        dueNoRegisters(ADD);
    }

    private static void subOfNoRegistersAnswers3() {
        dueNoRegisters(SUB);
    }

    private static void mulOfNoRegistersAnswers3() {
        dueNoRegisters(MUL);
    }

    private static void divOfNoRegistersAnswers3() {
        dueNoRegisters(DIV);
    }

    /** With no register to write to, what there would be no room for answers 3 as well. */
    private static void noRegisterGoesBeforeNoRoom() {
        Box box = box(2, 1);
        box.set(0, LEAST, 1);
        box.set(1, 1, LEAST);
        due("add", box.on().add(2, 0, 0), 3);
        due("sub", box.on().sub(-1, 0, 1), 3);
        due("mul", box.on().mul(8, 0, 0), 3);
        due("div", box.on().div(GREATEST, 0, 1), 3);
    }

    private static void noRegisterGoesBeforeDividingBy0() {
        Box box = box(2, 1);
        box.set(0, 1, 2);
        due("to none", box.on().div(2, 0, 1), 3);
        due("of none", box.on().div(0, 2, 1), 3);
        due("to and of none", box.on().div(-1, -1, 1), 3);
    }

    /** All ways to choose d, a and b of three registers. */
    private static void theRegistersOfOneCallMayBeTheSame() {
        int[][] values = {{7, 3}, {-2, 5}, {3, 1}};
        for (int code = 0; code < 27 * 4; code++) {
            int kind = code % 4;
            int d = code / 4 % 3;
            int a = code / 12 % 3;
            int b = code / 36;
            Box box = box(3, 1);
            for (int r = 0; r < 3; r++) {
                box.set(r, values[r][0], values[r][1]);
            }
            due("kind " + kind, box.reckon(kind, d, a, b), 0);
            long p = values[a][0];
            long q = values[a][1];
            long u = values[b][0];
            long v = values[b][1];
            long upper = kind == ADD ? p * v + u * q : kind == SUB ? p * v - u * q : kind == MUL ? p * u : p * v;
            long lower = kind == DIV ? q * u : q * v;
            long divisor = big(upper).gcd(big(lower)).longValue() * Long.signum(lower);
            for (int r = 0; r < 3; r++) {
                String what = "kind " + kind + " " + d + " " + a + " " + b + ", register " + r;
                if (r == d) {
                    box.has(what, r, upper / divisor, lower / divisor);
                } else {
                    box.has(what, r, values[r][0], values[r][1]);
                }
            }
        }
    }

    private static void dividingBy0Answers2() {
        Box box = box(3, 1);
        box.set(0, 5, 7);
        box.set(2, 0, LEAST);
        due("x : 0 at first", box.on().div(0, 0, 1), 2);
        due("x : 0 by set", box.on().div(0, 0, 2), 2);
        due("0 : 0", box.on().div(1, 2, 2), 2);
        due("sub", box.on().sub(2, 0, 0), 0);
        due("x : (x - x)", box.on().div(1, 0, 2), 2);
        box.set(2, -1, LEAST);
        due("x : a very small number", box.on().div(1, 1, 2), 0);
    }

    private static void carriesGoThroughAllLimbs() {
        for (int width = 2; width <= 8; width++) {
            BigInteger full = full(width - 1);
            Box box = boxOf(width, full, ONE);
            box.set(1, 1, 1);
            due("add", box.on().add(2, 0, 1), 0);
            box.has("a carry through " + (width - 1), 2, full.add(ONE), ONE);
            due("sub", box.on().sub(3, 2, 1), 0);
            box.has("a borrow through " + (width - 1), 3, full, ONE);
            due("sub", box.on().sub(3, 1, 2), 0);
            box.has("a borrow to below 0", 3, full.negate(), ONE);
            due("add", box.on().add(3, 3, 2), 0);
            box.has("back above 0", 3, ONE, ONE);
        }
    }

    private static void cmpTellsNeighboursApart() {
        for (int width = 1; width <= 8; width++) {
            BigInteger full = full(width);
            Box box = boxOf(width, full, full.subtract(ONE));
            box.load(1, full.subtract(ONE), full.subtract(TWO));
            String what = "neighbours of width " + width;
            due(what, box.on().cmp(0, 1), -1);
            due(what, box.on().cmp(1, 0), 1);
            due(what, box.on().cmp(1, 1), 0);
            box.set(2, -1, 1);
            due("minus", box.on().mul(0, 0, 2), 0);
            due("minus", box.on().mul(1, 1, 2), 0);
            due("below 0, " + what, box.on().cmp(0, 1), 1);
            due("below 0, " + what, box.on().cmp(1, 0), -1);
            due("below 0, " + what, box.on().cmp(0, 0), 0);
            due("below 0 and 0, " + what, box.on().cmp(0, 3), -1);
            due("0 and below 0, " + what, box.on().cmp(3, 0), 1);
        }
    }

    private static void cmpAnswersJustOneOfItsNumbers() {
        int[][] rising = {{LEAST, 1}, {LEAST + 1, 1}, {-1, 1}, {-1, GREATEST}, {1, LEAST}, {0, 1}, {-1, LEAST}, {1, GREATEST},
            {1, 1}, {GREATEST, GREATEST - 1}, {GREATEST - 1, 1}, {GREATEST, 1}, {LEAST, -1}};
        for (int i = 0; i < rising.length; i++) {
            Box box = box(2, 1);
            box.set(0, rising[i][0], rising[i][1]);
            for (int j = 0; j < rising.length; j++) {
                box.set(1, rising[j][0], rising[j][1]);
                due("cmp of row " + i + " and row " + j, box.on().cmp(0, 1), Integer.compare(i, j));
            }
        }
    }

    private static void cmpOfNoRegistersAnswers2() {
        for (int registers = 1; registers <= 8; registers++) {
            Box box = box(registers, 1);
            due("cmp of the last", box.on().cmp(registers - 1, 0), 0);
            for (int r : noRegisters(registers)) {
                if (r < 0 || r >= registers) {
                    due("cmp(" + r + ", 0) of " + registers, box.on().cmp(r, 0), 2);
                    due("cmp(0, " + r + ") of " + registers, box.on().cmp(0, r), 2);
                    due("cmp(" + r + ", " + r + ") of " + registers, box.on().cmp(r, r), 2);
                }
            }
        }
    }

    public static void main(String[] args) {
        check("1: registers and width, 1 .. 8 each", ReckoningBoundaryTest::registersAndWidthAre1To8);
        check("1: of another number of registers 1", ReckoningBoundaryTest::anotherNumberOfRegistersIs1);
        check("1: of another width 1", ReckoningBoundaryTest::anotherWidthIs1);
        check("1: no continued fraction was begun", ReckoningBoundaryTest::aNewObjectHasNoContinuedFractionBegun);
        check("1: a new object", ReckoningBoundaryTest::aNewObjectKnowsNothingOfOthers);
        check("2: register r becomes p over q", ReckoningBoundaryTest::setTakesAllInts);
        check("2: 2 when q is 0", ReckoningBoundaryTest::setOver0Answers2);
        check("2: 3 when there is no such register", ReckoningBoundaryTest::setOfNoRegisterAnswers3);
        check("2: (asked first)", ReckoningBoundaryTest::setAsksForTheRegisterFirst);
        check("3: 3 when there are none such registers", ReckoningBoundaryTest::addOfNoRegistersAnswers3);
        check("4: likewise", ReckoningBoundaryTest::subOfNoRegistersAnswers3);
        check("5: likewise", ReckoningBoundaryTest::mulOfNoRegistersAnswers3);
        check("6: likewise", ReckoningBoundaryTest::divOfNoRegistersAnswers3);
        check("3 to 6: 3, also without room", ReckoningBoundaryTest::noRegisterGoesBeforeNoRoom);
        check("6: 3, also by 0", ReckoningBoundaryTest::noRegisterGoesBeforeDividingBy0);
        check("6: 2 when that of b is 0", ReckoningBoundaryTest::dividingBy0Answers2);
        check("3 to 6: register d becomes (the same registers)", ReckoningBoundaryTest::theRegistersOfOneCallMayBeTheSame);
        check("3, 4: that of a plus, less that of b (carries)", ReckoningBoundaryTest::carriesGoThroughAllLimbs);
        check("7: less, the same, greater (neighbours)", ReckoningBoundaryTest::cmpTellsNeighboursApart);
        check("7: -1, 0, 1", ReckoningBoundaryTest::cmpAnswersJustOneOfItsNumbers);
        check("7: 2 when there are none such registers", ReckoningBoundaryTest::cmpOfNoRegistersAnswers2);
        end();
    }
}
