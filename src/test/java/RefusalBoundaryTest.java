import java.math.BigInteger;

/** A call that is refused, or has no room, changes nothing; nor does a question. */
public final class RefusalBoundaryTest extends BoundaryChecks {
    /** A call that ought to be refused, and its answer. */
    private interface Refused {
        long ask(ContinuedRatios x);
    }

    private static void dueUnchanged(String what, long want, Refused call) {
        Box box = begun();
        String before = box.state();
        due(what, call.ask(box.on()), want);
        due("state behind " + what, box.state(), before);
        box.leaves("behind " + what, 2, 6, 7);
        due(what + " again", call.ask(box.on()), want);
        box.hasNoneLeft("behind " + what + " again");
    }

    private static void refusedSetsChangeNothing() {
        dueUnchanged("set over 0", 2, x -> x.set(0, 5, 0));
        dueUnchanged("set 0 over 0", 2, x -> x.set(2, 0, 0));
        for (int r : noRegisters(3)) {
            dueUnchanged("set(" + r + ", 5, 7)", 3, x -> x.set(r, 5, 7));
            dueUnchanged("set(" + r + ", 5, 0)", 3, x -> x.set(r, 5, 0));
        }
    }

    private static void reckoningWithoutRoomChangesNothing() {
        for (int target = 0; target < 3; target++) {
            int d = target;
            dueUnchanged("add to " + d, 1, x -> x.add(d, 1, 1));
            dueUnchanged("add to " + d, 1, x -> x.add(d, 0, 1));
            dueUnchanged("sub to " + d, 1, x -> x.sub(d, 0, 1));
            dueUnchanged("sub to " + d, 1, x -> x.sub(d, 1, 0));
            dueUnchanged("mul to " + d, 1, x -> x.mul(d, 1, 1));
            dueUnchanged("mul to " + d, 1, x -> x.mul(d, 0, 1));
            dueUnchanged("div to " + d, 1, x -> x.div(d, 0, 1));
            dueUnchanged("div to " + d, 1, x -> x.div(d, 1, 0));
        }
    }

    private static void longReckoningWithoutRoomChangesNothing() {
        for (int width = 2; width <= 8; width += 3) {
            BigInteger full = full(width);
            Box box = boxOf(width, full.negate(), full.subtract(ONE));
            box.load(1, full.subtract(TWO), full.subtract(big(4)));
            for (int kind = ADD; kind <= DIV; kind++) {
                for (int d = 0; d < 3; d++) {
                    due("kind " + kind + " to " + d, box.reckon(kind, d, 0, 1), 1);
                    due("kind " + kind + " to " + d, box.reckon(kind, d, 1, 0), 1);
                }
            }
            box.has("unchanged 0 of width " + width, 0, full.negate(), full.subtract(ONE));
            box.has("unchanged 1 of width " + width, 1, full.subtract(TWO), full.subtract(big(4)));
            box.has("unchanged 2 of width " + width, 2, ZERO, ONE);
        }
    }

    private static void reckoningWithoutRegistersChangesNothing() {
        for (int r : noRegisters(3)) {
            for (int k = ADD; k <= DIV; k++) {
                int kind = k;
                dueUnchanged("kind " + kind + " to " + r, 3, x -> ask(x, kind, r, 0, 1));
                dueUnchanged("kind " + kind + " of " + r, 3, x -> ask(x, kind, 0, r, 1));
                dueUnchanged("kind " + kind + " by " + r, 3, x -> ask(x, kind, 0, 1, r));
                dueUnchanged("kind " + kind + " all " + r, 3, x -> ask(x, kind, r, r, r));
            }
        }
    }

    private static int ask(ContinuedRatios x, int kind, int d, int a, int b) {
        switch (kind) {
            case ADD: return x.add(d, a, b);
            case SUB: return x.sub(d, a, b);
            case MUL: return x.mul(d, a, b);
            default: return x.div(d, a, b);
        }
    }

    private static void dividingBy0ChangesNothing() {
        for (int target = 0; target < 3; target++) {
            int d = target;
            dueUnchanged("x : 0 to " + d, 2, x -> x.div(d, 0, 2));
            dueUnchanged("-2^31 : 0 to " + d, 2, x -> x.div(d, 1, 2));
            dueUnchanged("0 : 0 to " + d, 2, x -> x.div(d, 2, 2));
        }
    }

    private static void refusedStartsChangeNothing() {
        for (int r : noRegisters(3)) {
            dueUnchanged("cfStart(" + r + ")", 0, x -> x.cfStart(r) ? 1 : 0);
        }
    }

    private static void refusedQuestionsChangeNothing() {
        for (int r : noRegisters(3)) {
            dueUnchanged("cmp(" + r + ", 0)", 2, x -> x.cmp(r, 0));
            dueUnchanged("cmp(0, " + r + ")", 2, x -> x.cmp(0, r));
            dueUnchanged("fits(" + r + ")", 0, x -> x.fits(r) ? 1 : 0);
            dueUnchanged("floorSmall(" + r + ")", 0, x -> x.floorSmall(r));
            dueUnchanged("numLimb(" + r + ", 0)", 0, x -> x.numLimb(r, 0));
            dueUnchanged("denLimb(" + r + ", 0)", 0, x -> x.denLimb(r, 0));
            dueUnchanged("sign(" + r + ")", 0, x -> x.sign(r));
            dueUnchanged("best(" + r + ", 9, 0)", NONE, x -> x.best(r, 9, 0));
        }
        dueUnchanged("best(0, 0, 0)", NONE, x -> x.best(0, 0, 0));
        dueUnchanged("best(0, 1001, 1)", NONE, x -> x.best(0, 1001, 1));
        dueUnchanged("best(0, 9, 2)", NONE, x -> x.best(0, 9, 2));
    }

    private static void answeredQuestionsChangeNothing() {
        dueUnchanged("cmp(0, 1)", 1, x -> x.cmp(0, 1));
        dueUnchanged("cmp(1, 1)", 0, x -> x.cmp(1, 1));
        dueUnchanged("fits(1)", 1, x -> x.fits(1) ? 1 : 0);
        dueUnchanged("floorSmall(0)", 4, x -> x.floorSmall(0));
        dueUnchanged("best(0, 50, 0)", 58, x -> x.best(0, 50, 0));
        dueUnchanged("best(0, 50, 1)", 13, x -> x.best(0, 50, 1));
        dueUnchanged("best(1, 1000, 0)", LEAST, x -> x.best(1, 1000, 0));
    }

    public static void main(String[] args) {
        check("Terms: a refused set changes nothing", RefusalBoundaryTest::refusedSetsChangeNothing);
        check("Terms: what has no room changes nothing", RefusalBoundaryTest::reckoningWithoutRoomChangesNothing);
        check("Terms: what has no room changes nothing (long)", RefusalBoundaryTest::longReckoningWithoutRoomChangesNothing);
        check("Terms: a refused reckoning changes nothing", RefusalBoundaryTest::reckoningWithoutRegistersChangesNothing);
        check("Terms: a refused division changes nothing", RefusalBoundaryTest::dividingBy0ChangesNothing);
        check("Terms: a refused start changes nothing", RefusalBoundaryTest::refusedStartsChangeNothing);
        check("Terms: a refused question changes nothing", RefusalBoundaryTest::refusedQuestionsChangeNothing);
        check("Promises 7 to 9, 16: a question changes nothing", RefusalBoundaryTest::answeredQuestionsChangeNothing);
        end();
    }
}
