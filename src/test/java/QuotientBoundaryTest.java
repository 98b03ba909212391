import java.math.BigInteger;
import java.util.Arrays;

/** The boundaries of promises 8 to 12, and what "Terms" says of quotients. */
public final class QuotientBoundaryTest extends BoundaryChecks {
    private static void theFirstQuotientIsDownToAWholeNumber() {
        int[][] rows = {{7, 2, 3}, {-7, 2, -4}, {1, 2, 0}, {-1, 2, -1}, {-1, GREATEST, -1}, {GREATEST - 1, GREATEST, 0},
            {-4, 1, -4}, {1 - GREATEST, GREATEST, -1}, {GREATEST, GREATEST - 1, 1}, {-GREATEST, GREATEST - 1, -2}};
        for (int[] row : rows) {
            Box box = boxOf(1, row[0], row[1]);
            box.start(0);
            due("first quotient of " + row[0] + "/" + row[1], box.on().cfNext(), row[2]);
        }
    }

    private static void nothingIsBehindAWholeNumber() {
        for (int whole : new int[] {0, 1, -1, 2, -2, LEAST + 1, GREATEST}) {
            Box box = boxOf(1, whole, 1);
            box.start(0);
            box.leaves("quotients of " + whole, whole);
        }
    }

    private static void theOthersAreThoseOf1OverWhatIsLeft() {
        Box box = box(1, 1);
        int[][] rows = {{1, 2, 0, 2}, {-1, 2, -1, 2}, {1, GREATEST, 0, GREATEST}, {-1, 3, -1, 1, 2},
            {415, 93, 4, 2, 6, 7}, {-415, 93, -5, 1, 1, 6, 7}, {8, 5, 1, 1, 1, 2}, {-8, 5, -2, 2, 2}};
        for (int[] row : rows) {
            box.set(0, row[0], row[1]);
            box.start(0);
            box.leaves(row[0] + "/" + row[1], Arrays.copyOfRange(row, 2, row.length));
        }
    }

    /** Fibonacci numbers: no numbers of 8 limbs have more quotients. */
    private static void allQuotientsOfLongNumbersAreThere() {
        due("the greatest with room", fibonacci(370).bitLength() <= 256 && fibonacci(371).bitLength() > 256, true);
        Box box = boxOf(8, fibonacci(370), fibonacci(369));
        box.start(0);
        for (int i = 0; i < 367; i++) {
            due("quotient " + i, box.on().cfNext(), 1);
        }
        box.leaves("the last quotient", 2);
    }

    private static BigInteger fibonacci(int n) {
        BigInteger a = ZERO;
        BigInteger b = ONE;
        for (int i = 0; i < n; i++) {
            BigInteger c = a.add(b);
            a = b;
            b = c;
        }
        return a;
    }

    private static void quotientsFitAboveTheLeastInt() {
        Box box = boxOf(2, LEAST, 1);
        box.start(0);
        box.isStuck("-2^31");
        box.set(0, LEAST + 1, 1);
        box.start(0);
        box.leaves("-2^31 + 1", LEAST + 1);
        box.set(1, 1, 3);
        due("add", box.on().add(2, 0, 1), 0);
        box.start(2);
        box.leaves("-2^31 + 1 + 1/3", LEAST + 1, 3);
        due("sub", box.on().sub(2, 0, 1), 0);
        box.start(2);
        box.isStuck("-2^31 + 1 - 1/3, which goes down to -2^31");
        box.set(0, LEAST, 1);
        due("sub", box.on().sub(2, 0, 1), 0);
        box.start(2);
        box.isStuck("-2^31 - 1/3");
    }

    private static void quotientsFitUpToTheGreatestInt() {
        Box box = boxOf(2, GREATEST, 1);
        box.start(0);
        box.leaves("2^31 - 1", GREATEST);
        box.set(1, 1, 3);
        due("add", box.on().add(2, 0, 1), 0);
        box.start(2);
        box.leaves("2^31 - 1 + 1/3", GREATEST, 3);
        box.set(0, LEAST, -1);
        box.start(0);
        box.isStuck("2^31");
        due("sub", box.on().sub(2, 0, 1), 0);
        box.start(2);
        box.leaves("2^31 - 1/3", GREATEST, 1, 2);
    }

    /** Of these only the lowest bits look like an int that fits. */
    private static void longQuotientsDoNotFit() {
        BigInteger[] wholes = {power(31), power(32).subtract(ONE), power(32), power(32).add(big(7)), power(33).add(ONE),
            power(63), power(64).subtract(ONE), power(64), power(64).add(big(7)), power(255).add(big(7)), full(8)};
        for (BigInteger whole : wholes) {
            Box box = boxOf(8, whole, ONE);
            box.start(0);
            box.isStuck("first is " + whole);
            box.set(1, -1, 1);
            due("minus", box.on().mul(1, 1, 0), 0);
            box.start(1);
            box.isStuck("first is -" + whole);
            box.set(1, 1, 1);
            due("turn", box.on().div(0, 1, 0), 0);
            box.start(0);
            due("first of 1/" + whole, box.on().cfNext(), 0);
            box.isStuck("second is " + whole);
        }
    }

    private static void laterQuotientsFitUpToTheGreatestInt() {
        Box box = boxOf(4, 1, GREATEST);
        box.set(1, 5, 1);
        due("add", box.on().add(2, 0, 1), 0);
        box.start(2);
        box.leaves("5 + 1/(2^31 - 1)", 5, GREATEST);
        box.set(0, 1, LEAST);
        due("sub", box.on().sub(2, 1, 0), 0);
        box.start(2);
        due("first of 5 + 1/2^31", box.on().cfNext(), 5);
        box.isStuck("5 + 1/2^31");
        BigInteger odd = power(32).subtract(ONE);
        box.load(0, TWO, odd);
        box.start(0);
        box.leaves("1 / (2^31 - 1/2)", 0, GREATEST, 2);
        box.load(0, TWO, odd.add(TWO));
        box.start(0);
        due("first of 1 / (2^31 + 1/2)", box.on().cfNext(), 0);
        box.isStuck("1 / (2^31 + 1/2)");
    }

    private static void fitsIsTrueForWholeNumbersThatAreInts() {
        for (Floor floor : floors()) {
            due("fits() of " + floor, floor.box().on().fits(0), floor.fits);
        }
    }

    private static void fitsIsFalseForNoRegister() {
        Box box = box(3, 1);
        due("fits of the last", box.on().fits(2), true);
        for (int r : noRegisters(3)) {
            due("fits(" + r + ")", box.on().fits(r), false);
        }
    }

    private static void floorSmallIsThatWholeNumber() {
        for (Floor floor : floors()) {
            if (floor.fits) {
                due("floorSmall() of " + floor, floor.box().on().floorSmall(0), floor.whole);
            }
        }
    }

    private static void floorSmallIs0WhenThatIsNoInt() {
        for (Floor floor : floors()) {
            if (!floor.fits) {
                due("floorSmall() of " + floor, floor.box().on().floorSmall(0), 0);
            }
        }
    }

    private static void floorSmallIs0ForNoRegister() {
        Box box = box(3, 1);
        for (int r = 0; r < 3; r++) {
            box.set(r, 7, 2);
        }
        due("floorSmall of the last", box.on().floorSmall(2), 3);
        for (int r : noRegisters(3)) {
            due("floorSmall(" + r + ")", box.on().floorSmall(r), 0);
        }
    }

    private static void whatWasBegunIsTheFractionOfThen() {
        for (int kind = ADD; kind <= DIV; kind++) {
            Box box = begun();
            box.set(1, 1, 2);
            due("kind " + kind, box.reckon(kind, 0, 1, 1), 0);
            box.leaves("behind kind " + kind, 2, 6, 7);
        }
        Box box = begun();
        box.set(0, 0, 1);
        box.leaves("behind a set", 2, 6, 7);
        box = box(1, 1);
        box.set(0, 7, 3);
        box.start(0);
        box.set(0, 1, 2);
        box.leaves("behind a set before the first quotient", 2, 3);
    }

    private static void quotientsLeaveTheRegisterAsItIs() {
        Box box = begun();
        box.leaves("all", 2, 6, 7);
        box.has("415/93", 0, 415, 93);
        box.start(1);
        box.isStuck("-2^31");
        box.has("-2^31", 1, LEAST, 1);
    }

    private static void aNewStartBeginsAnew() {
        Box box = begun();
        box.start(0);
        box.leaves("amid another", 4, 2, 6, 7);
        box.start(0);
        box.leaves("behind the end of another", 4, 2, 6, 7);
        box.start(1);
        box.isStuck("-2^31");
        box.start(0);
        box.leaves("where the next did not fit", 4, 2, 6, 7);
        box.start(2);
        box.leaves("of 0", 0);
    }

    private static void startsAreTrueForRegistersAlone() {
        for (int registers = 1; registers <= 8; registers++) {
            Box box = box(registers, 1);
            for (int r = 0; r < registers; r++) {
                box.start(r);
            }
            for (int r : noRegisters(registers)) {
                if (r < 0 || r >= registers) {
                    due("cfStart(" + r + ") of " + registers, box.on().cfStart(r), false);
                }
            }
        }
    }

    private static void aRefusedStartBeginsNothing() {
        for (int r : noRegisters(2)) {
            Box box = box(2, 1);
            due("cfStart(" + r + ")", box.on().cfStart(r), false);
            box.hasNoneLeft("behind cfStart(" + r + ")");
            box.set(1, 7, 3);
            box.start(1);
            due("first", box.on().cfNext(), 2);
            box.leaves("7/3", 3);
            due("cfStart(" + r + ")", box.on().cfStart(r), false);
            box.hasNoneLeft("behind cfStart(" + r + ") at the end");
            box.set(1, LEAST, 1);
            box.start(1);
            due("cfStart(" + r + ")", box.on().cfStart(r), false);
            box.isStuck("behind cfStart(" + r + ") where the next does not fit");
        }
    }

    private static void aQuotientThatDoesNotFitStaysTheNext() {
        Box box = box(8, 4);
        box.load(0, power(32).multiply(big(6)).add(ONE), power(32));
        box.start(0);
        due("first of 6 + 1/2^32", box.on().cfNext(), 6);
        box.isStuck("second is 2^32");
        box.load(0, power(32).add(big(3)).multiply(big(9)).add(ONE), big(9));
        box.start(0);
        box.isStuck("2^32 + 3 + 1/9, where 9 would be behind");
    }

    private static void cfNextIsTheLeastIntWhenNoneIsLeft() {
        Box box = begun();
        for (int quotient : new int[] {2, 6, 7}) {
            due("quotient", box.on().cfNext(), quotient);
        }
        for (int i = 0; i < 400; i++) {
            due("behind the last", box.on().cfNext(), LEAST);
        }
    }

    private static void cfNextIsTheLeastIntWhenNothingWasBegun() {
        Box box = box(2, 2);
        for (int i = 0; i < 5; i++) {
            box.set(0, i, 7);
            due("nothing begun", box.on().cfNext(), LEAST);
        }
    }

    private static void cfDoneIsTrueWhenNoQuotientIsLeft() {
        Box box = box(1, 1);
        box.set(0, 8, 5);
        box.start(0);
        for (int i = 0; i < 4; i++) {
            due("before quotient " + i, box.on().cfDone(), false);
            due("asked twice before quotient " + i, box.on().cfDone(), false);
            box.on().cfNext();
        }
        due("behind the last", box.on().cfDone(), true);
        box.start(0);
        due("behind a new start", box.on().cfDone(), false);
        box.set(0, 0, 1);
        box.start(0);
        due("0 has one quotient", box.on().cfDone(), false);
        due("which is 0", box.on().cfNext(), 0);
        due("and no other", box.on().cfDone(), true);
    }

    private static void cfDoneIsTrueWhenNothingWasBegun() {
        Box box = box(2, 2);
        for (int i = 0; i < 5; i++) {
            box.set(0, i, 7);
            due("nothing begun", box.on().cfDone(), true);
        }
    }

    private static void cfDoneIsFalseWhereTheNextDoesNotFit() {
        Box box = boxOf(1, LEAST, 1);
        box.start(0);
        due("before", box.on().cfDone(), false);
        box.on().cfNext();
        due("behind", box.on().cfDone(), false);
    }

    public static void main(String[] args) {
        check("Terms: the first quotient is x, down to a whole number", QuotientBoundaryTest::theFirstQuotientIsDownToAWholeNumber);
        check("Terms: when something is left, the others", QuotientBoundaryTest::nothingIsBehindAWholeNumber);
        check("Terms: those of 1 over what is left", QuotientBoundaryTest::theOthersAreThoseOf1OverWhatIsLeft);
        check("Terms: quotients (long numbers)", QuotientBoundaryTest::allQuotientsOfLongNumbersAreThere);
        check("Terms: fits when it is above -2147483648", QuotientBoundaryTest::quotientsFitAboveTheLeastInt);
        check("Terms: fits when it is at most 2147483647", QuotientBoundaryTest::quotientsFitUpToTheGreatestInt);
        check("Terms: fits (later quotients)", QuotientBoundaryTest::laterQuotientsFitUpToTheGreatestInt);
        check("Terms: fits (long quotients)", QuotientBoundaryTest::longQuotientsDoNotFit);
        check("8: down to a whole number, is an int", QuotientBoundaryTest::fitsIsTrueForWholeNumbersThatAreInts);
        check("8: false when there is none such", QuotientBoundaryTest::fitsIsFalseForNoRegister);
        check("9: that whole number", QuotientBoundaryTest::floorSmallIsThatWholeNumber);
        check("9: 0 when it is no int", QuotientBoundaryTest::floorSmallIs0WhenThatIsNoInt);
        check("9: 0 when there is none", QuotientBoundaryTest::floorSmallIs0ForNoRegister);
        check("10: as it is now", QuotientBoundaryTest::whatWasBegunIsTheFractionOfThen);
        check("10: begins the continued fraction", QuotientBoundaryTest::aNewStartBeginsAnew);
        check("10: true; false when there is none such", QuotientBoundaryTest::startsAreTrueForRegistersAlone);
        check("10: a refused start", QuotientBoundaryTest::aRefusedStartBeginsNothing);
        check("11: the next quotient changes no register", QuotientBoundaryTest::quotientsLeaveTheRegisterAsItIs);
        check("11: when it fits: then the one behind it is the next", QuotientBoundaryTest::aQuotientThatDoesNotFitStaysTheNext);
        check("11: -2147483648 when none is left", QuotientBoundaryTest::cfNextIsTheLeastIntWhenNoneIsLeft);
        check("11: -2147483648 when nothing was begun", QuotientBoundaryTest::cfNextIsTheLeastIntWhenNothingWasBegun);
        check("12: whether no quotient is left", QuotientBoundaryTest::cfDoneIsTrueWhenNoQuotientIsLeft);
        check("12: also when nothing was begun", QuotientBoundaryTest::cfDoneIsTrueWhenNothingWasBegun);
        check("12: a quotient that does not fit is left", QuotientBoundaryTest::cfDoneIsFalseWhereTheNextDoesNotFit);
        end();
    }
}
