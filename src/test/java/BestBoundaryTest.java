import java.math.BigInteger;

/** The boundaries of promise 16: best. */
public final class BestBoundaryTest extends BoundaryChecks {
    private static void bestHasALowerNumberUpToMost() {
        for (int q : new int[] {1, 2, 3, 7, 500, 999, 1000}) {
            Box box = boxOf(1, 1, q);
            box.best(0, q, 1, q);
            box.best(0, 1000, 1, q);
            if (q > 2) {
                box.best(0, q - 1, 1, q - 1);
            }
            box.set(0, -1, q);
            box.best(0, q, -1, q);
        }
        Box box = boxOf(1, 1, 1001);
        box.best(0, 1000, 1, 1000);
        box.set(0, 1000, 1001);
        box.best(0, 1000, 999, 1000);
        box.set(0, 997, 1009);
        box.best(0, 1000, 914, 925);
    }

    /** Fibonacci numbers have the most convergents on the way. */
    private static void theLongestSearchComesToItsEnd() {
        Box box = boxOf(1, 1836311903, 1134903170);
        box.best(0, 1000, 1597, 987);
        box.best(0, 987, 1597, 987);
        box.best(0, 986, 987, 610);
        box.best(0, 610, 987, 610);
        box.best(0, 609, 610, 377);
        box.set(0, 1134903170, 1836311903);
        box.best(0, 1000, 610, 987);
        box.set(0, -1134903170, 1836311903);
        box.best(0, 1000, -610, 987);
        box.best(0, 986, -377, 610);
    }

    private static void bestWithMost1IsAWholeNumber() {
        Box box = box(1, 1);
        int[][] rows = {{7, 3, 2}, {8, 3, 3}, {-7, 3, -2}, {-8, 3, -3}, {0, 1, 0}, {-5, 1, -5}, {1, GREATEST, 0},
            {-1, GREATEST, 0}, {GREATEST - 1, GREATEST, 1}, {1 - GREATEST, GREATEST, -1}};
        for (int[] row : rows) {
            box.set(0, row[0], row[1]);
            box.best(0, 1, row[2], 1);
        }
    }

    private static void ofTheNearestTheLeastLowerNumberIsBest() {
        Box box = boxOf(1, 5, 12);
        box.best(0, 3, 1, 2);
        box.best(0, 4, 1, 2);
        box.set(0, 7, 12);
        box.best(0, 3, 1, 2);
        box.set(0, -5, 12);
        box.best(0, 3, -1, 2);
        box.set(0, -7, 12);
        box.best(0, 3, -1, 2);
        box.set(0, 1, 2000);
        box.best(0, 1000, 0, 1);
        box.set(0, -1, 2000);
        box.best(0, 1000, 0, 1);
        box.set(0, 1999, 2000);
        box.best(0, 1000, 1, 1);
        box.set(0, -1999, 2000);
        box.best(0, 1000, -1, 1);
        box.set(0, 1999, 1998000);
        box.best(0, 1000, 1, 999);
        // A whole number is its own best, however it might be written.
        box.set(0, -3, 1);
        box.best(0, 1000, -3, 1);
    }

    private static void ofThoseTheLesserIsBest() {
        Box box = box(8, 2);
        int[][] rows = {{1, 2, 0}, {-1, 2, -1}, {7, 2, 3}, {-7, 2, -4}, {GREATEST, 2, 1073741823},
            {-GREATEST, 2, -1073741824}};
        for (int[] row : rows) {
            box.set(0, row[0], row[1]);
            box.best(0, 1, row[2], 1);
        }
        box.load(0, power(32).subtract(ONE), TWO);
        box.best(0, 1, GREATEST, 1);
        box.load(0, ONE.subtract(power(32)), TWO);
        box.best(0, 1, LEAST, 1);
    }

    /** Next to what is as near to one side as to the other, by as little as there is room for. */
    private static void bestTellsHardlyNearerFromAsNear() {
        BigInteger q = power(250);
        BigInteger middle = q.multiply(big(5));
        BigInteger lower = q.multiply(big(12));
        boxOf(8, middle, lower).best(0, 3, 1, 2);
        boxOf(8, middle.add(ONE), lower).best(0, 3, 1, 2);
        boxOf(8, middle.subtract(ONE), lower).best(0, 3, 1, 3);
        boxOf(8, middle.negate().add(ONE), lower).best(0, 3, -1, 3);
        BigInteger half = power(254);
        boxOf(8, half, half.shiftLeft(1)).best(0, 1, 0, 1);
        boxOf(8, half.subtract(ONE), half.shiftLeft(1)).best(0, 1, 0, 1);
        boxOf(8, half.add(ONE), half.shiftLeft(1)).best(0, 1, 1, 1);
        boxOf(8, half.add(ONE).negate(), half.shiftLeft(1)).best(0, 1, -1, 1);
        boxOf(8, ONE, full(8)).best(0, 1000, 0, 1);
        boxOf(8, full(8).subtract(ONE), full(8)).best(0, 1000, 1, 1);
    }

    private static void bestUpperNumbersMayBeNoInts() {
        Box box = boxOf(2, big(2147483647999L), big(1000));
        box.best(0, 1000, 2147483647999L, 1000);
        box.best(0, 999, 2145336164351L, 999);
        box.best(0, 1, 2147483648L, 1);
        box = boxOf(2, big(-2147483647999L), big(1000));
        box.best(0, 1000, -2147483647999L, 1000);
        box.best(0, 1, LEAST, 1);
        box = boxOf(2, big(6442450943L), big(3));
        box.best(0, 1, 2147483648L, 1);
        box.best(0, 2, 4294967295L, 2);
        box.best(0, 3, 6442450943L, 3);
    }

    private static void mostIsFrom1To1000() {
        Box box = boxOf(1, 7, 2);
        box.best(0, 1, 3, 1);
        box.best(0, 1000, 7, 2);
        for (int most : new int[] {0, -1, -1000, 1001, 1002, 65536 + 1, LEAST, LEAST + 1, GREATEST}) {
            box.best(0, most, NONE, NONE);
        }
    }

    private static void bestOfNoRegisterIsNone() {
        Box box = box(3, 1);
        box.best(2, 5, 0, 1);
        for (int r : noRegisters(3)) {
            box.best(r, 5, NONE, NONE);
        }
    }

    private static void bestOfWhatDoesNotFitIsNone() {
        for (Floor floor : floors()) {
            Box box = floor.box();
            for (int most : new int[] {1, 2, 1000}) {
                due("best upper of " + floor + ", " + most, box.on().best(0, most, 0) != NONE, floor.fits);
                due("best lower of " + floor + ", " + most, box.on().best(0, most, 1) != NONE, floor.fits);
            }
        }
    }

    private static void partIs0Or1() {
        Box box = boxOf(1, 7, 2);
        box.best(0, 10, 7, 2);
        for (int part : new int[] {-1, 2, 3, 256, 257, LEAST, LEAST + 1, GREATEST}) {
            due("best(0, 10, " + part + ")", box.on().best(0, 10, part), NONE);
        }
    }

    public static void main(String[] args) {
        check("16: all whose lower number is 1 .. most", BestBoundaryTest::bestHasALowerNumberUpToMost);
        check("16: all whose lower number (many convergents)", BestBoundaryTest::theLongestSearchComesToItsEnd);
        check("16: 1 .. most (1)", BestBoundaryTest::bestWithMost1IsAWholeNumber);
        check("16: of those the one whose lower number is least", BestBoundaryTest::ofTheNearestTheLeastLowerNumberIsBest);
        check("16: of those the lesser one", BestBoundaryTest::ofThoseTheLesserIsBest);
        check("16: nearest", BestBoundaryTest::bestTellsHardlyNearerFromAsNear);
        check("16: part 0 its upper number", BestBoundaryTest::bestUpperNumbersMayBeNoInts);
        check("16: none such (most of 1 .. 1000)", BestBoundaryTest::mostIsFrom1To1000);
        check("16: none such (register)", BestBoundaryTest::bestOfNoRegisterIsNone);
        check("16: or fits() is false", BestBoundaryTest::bestOfWhatDoesNotFitIsNone);
        check("16: none such (part)", BestBoundaryTest::partIs0Or1);
        end();
    }
}
