/** Each promise of the document by hand: ordinary inputs, the edges it names, and wrong inputs. */
public final class PromisesTest {
    private static final int LEAST = Integer.MIN_VALUE;
    private static final int GREATEST = Integer.MAX_VALUE;
    private static final long NONE = Long.MIN_VALUE;
    private static final int[] NO_REGISTERS = {-1, 3, 8, LEAST, GREATEST};

    private static int wrong = 0;

    private static void due(String what, long got, long want) {
        if (got != want) {
            wrong++;
            System.out.println(what + " answered " + got + ", due is " + want);
        }
    }

    private static void due(String what, boolean got, boolean want) {
        due(what, got ? 1 : 0, want ? 1 : 0);
    }

    /** Register r has a fraction whose numbers are both of one limb. */
    private static void dueFraction(String what, ContinuedRatios x, int r, long p, long q) {
        due(what + ": sign", x.sign(r), Long.signum(p));
        due(what + ": upper", x.numLimb(r, 0) & 0xFFFFFFFFL, Math.abs(p));
        due(what + ": lower", x.denLimb(r, 0) & 0xFFFFFFFFL, q);
        for (int i = 1; i < 9; i++) {
            due(what + ": upper limb " + i, x.numLimb(r, i), 0);
            due(what + ": lower limb " + i, x.denLimb(r, i), 0);
        }
    }

    private static void dueBest(String what, ContinuedRatios x, int r, int most, long p, long q) {
        due(what + ": best upper, " + most, x.best(r, most, 0), p);
        due(what + ": best lower, " + most, x.best(r, most, 1), q);
    }

    private static void dueQuotients(String what, ContinuedRatios x, int... quotients) {
        for (int i = 0; i < quotients.length; i++) {
            due(what + ": done before " + i, x.cfDone(), false);
            due(what + ": quotient " + i, x.cfNext(), quotients[i]);
        }
        due(what + ": done behind", x.cfDone(), true);
        due(what + ": quotient behind", x.cfNext(), LEAST);
        due(what + ": still done", x.cfDone(), true);
    }

    private static ContinuedRatios three(int width) {
        return new ContinuedRatios(3, width);
    }

    private static ContinuedRatios with(int width, int p, int q, int p1, int q1) {
        ContinuedRatios x = three(width);
        due("set", x.set(0, p, q), 0);
        due("set", x.set(1, p1, q1), 0);
        return x;
    }

    private static void newObject() {
        for (int size = 1; size <= 8; size++) {
            ContinuedRatios x = new ContinuedRatios(size, 1);
            due("last of " + size, x.set(size - 1, 1, 2), 0);
            due("beyond " + size, x.set(size, 1, 2), 3);
        }
        for (int size : new int[] {0, -1, 9, 10, LEAST, GREATEST}) {
            ContinuedRatios x = new ContinuedRatios(size, size);
            dueFraction("new", x, 0, 0, 1);
            due("one register of " + size, x.set(1, 1, 1), 3);
            due("set", x.set(0, GREATEST, 1), 0);
            due("one limb of " + size, x.mul(0, 0, 0), 1);
        }
        for (int width = 1; width <= 8; width++) {
            widthIs(width);
        }
        ContinuedRatios x = new ContinuedRatios(8, 8);
        for (int r = 0; r < 8; r++) {
            dueFraction("new", x, r, 0, 1);
        }
        due("nothing begun", x.cfNext(), LEAST);
        due("nothing begun", x.cfDone(), true);
    }

    /** 2 ^ (32 width) - 1 is the greatest number there is room for, above and below. */
    private static void widthIs(int width) {
        ContinuedRatios x = with(width, 0, 1, 65536, 1);
        due("set", x.set(2, 65535, 1), 0);
        for (int half = 0; half < 2 * width; half++) {
            due("shift", x.mul(0, 0, 1), 0);
            due("fill", x.add(0, 0, 2), 0);
        }
        due("set", x.set(1, 1, 1) + x.set(2, 0, 1), 0);
        due("no room above " + width, x.add(2, 0, 1), 1);
        dueFraction("unchanged", x, 2, 0, 1);
        for (int i = 0; i < 9; i++) {
            due("upper limb " + i + " of " + width, x.numLimb(0, i), i < width ? -1 : 0);
        }
        due("turn", x.div(0, 1, 0), 0);
        for (int i = 0; i < 9; i++) {
            due("lower limb " + i + " of " + width, x.denLimb(0, i), i < width ? -1 : 0);
        }
        due("set", x.set(1, 1, 2), 0);
        due("no room below " + width, x.mul(0, 0, 1), 1);
        due("unchanged", x.denLimb(0, width - 1), -1);
        due("minus", x.sub(0, 2, 0), 0);
        due("sign", x.sign(0), -1);
        due("upper", x.numLimb(0, 0), 1);
    }

    private static void set() {
        ContinuedRatios x = three(1);
        int[][] rows = {
            {6, 4, 3, 2}, {-6, 4, -3, 2}, {6, -4, -3, 2}, {-6, -4, 3, 2}, {0, 5, 0, 1}, {0, LEAST, 0, 1},
            {7, 1, 7, 1}, {LEAST, LEAST, 1, 1}, {LEAST, 2, -1073741824, 1}, {GREATEST, GREATEST, 1, 1},
            {GREATEST, 2, GREATEST, 2}, {1000000, 15625, 64, 1}
        };
        for (int[] row : rows) {
            due("set", x.set(1, row[0], row[1]), 0);
            dueFraction("set " + row[0] + " " + row[1], x, 1, row[2], row[3]);
        }
        due("set", x.set(1, LEAST, -1), 0);
        dueFraction("least over -1", x, 1, 2147483648L, 1);
        due("set", x.set(1, -1, LEAST), 0);
        dueFraction("-1 over least", x, 1, 1, 2147483648L);
        due("set", x.set(1, GREATEST, LEAST), 0);
        dueFraction("greatest over least", x, 1, -2147483647L, 2147483648L);
        due("over 0", x.set(1, 5, 0), 2);
        due("0 over 0", x.set(1, 0, 0), 2);
        dueFraction("unchanged", x, 1, -2147483647L, 2147483648L);
        dueFraction("others unchanged", x, 0, 0, 1);
        for (int r : NO_REGISTERS) {
            due("no register", x.set(r, 1, 1), 3);
            due("no register is asked first", x.set(r, 1, 0), 3);
        }
    }

    private static void addAndSub() {
        ContinuedRatios x = with(1, 1, 6, 1, 10);
        due("add", x.add(2, 0, 1), 0);
        dueFraction("1/6 + 1/10", x, 2, 4, 15);
        due("sub", x.sub(2, 0, 1), 0);
        dueFraction("1/6 - 1/10", x, 2, 1, 15);
        due("sub", x.sub(2, 1, 0), 0);
        dueFraction("1/10 - 1/6", x, 2, -1, 15);
        due("sub", x.sub(0, 0, 0), 0);
        dueFraction("x - x", x, 0, 0, 1);
        due("sub", x.sub(1, 0, 1), 0);
        dueFraction("0 - x", x, 1, -1, 10);
        due("add", x.add(1, 1, 1), 0);
        dueFraction("into itself", x, 1, -1, 5);
        due("add", x.add(1, 1, 0), 0);
        dueFraction("and 0", x, 1, -1, 5);
        due("add", x.add(0, 0, 1), 0);
        dueFraction("0 and", x, 0, -1, 5);
        due("sub", x.sub(2, 0, 1), 0);
        dueFraction("likes", x, 2, 0, 1);
        // The sum's upper number before reducing has more limbs than the sum.
        x = with(1, LEAST, -3, LEAST, -3);
        due("add", x.add(2, 0, 1), 1);
        due("add", x.set(1, LEAST, 3), 0);
        due("add", x.add(2, 0, 1), 0);
        dueFraction("gone", x, 2, 0, 1);
        x = with(1, GREATEST, 65536, 1, 65536);
        due("room only in lowest terms", x.add(2, 0, 1), 0);
        dueFraction("room only in lowest terms", x, 2, 32768, 1);
        x = with(1, 1, 65536, 1, 65537);
        due("no room for the lower number", x.add(2, 0, 1), 1);
        due("no room for the lower number", x.sub(2, 0, 1), 1);
        dueFraction("unchanged", x, 2, 0, 1);
        dueFraction("unchanged", x, 0, 1, 65536);
        due("no room for the upper number", x.set(0, LEAST, -1) + x.add(2, 0, 0), 1);
        due("no room for the upper number", x.set(1, LEAST, 1) + x.sub(2, 1, 0), 1);
        for (int r : NO_REGISTERS) {
            due("no register", x.add(r, 0, 0), 3);
            due("no register", x.add(2, r, 0), 3);
            due("no register", x.add(2, 0, r), 3);
            due("no register", x.sub(r, 0, 0), 3);
            due("no register", x.sub(2, r, 0), 3);
            due("no register", x.sub(2, 0, r), 3);
        }
        dueFraction("unchanged", x, 2, 0, 1);
    }

    private static void mulAndDiv() {
        ContinuedRatios x = with(1, -6, 35, 14, 15);
        due("mul", x.mul(2, 0, 1), 0);
        dueFraction("-6/35 * 14/15", x, 2, -4, 25);
        due("div", x.div(2, 0, 1), 0);
        dueFraction("-6/35 : 14/15", x, 2, -9, 49);
        due("div", x.div(2, 1, 0), 0);
        dueFraction("14/15 : -6/35", x, 2, -49, 9);
        due("mul", x.mul(0, 0, 0), 0);
        dueFraction("square", x, 0, 36, 1225);
        due("div", x.div(1, 1, 1), 0);
        dueFraction("x : x", x, 1, 1, 1);
        x = with(1, -5, 7, 0, 1);
        due("mul", x.mul(2, 0, 1), 0);
        dueFraction("x * 0", x, 2, 0, 1);
        due("mul", x.mul(2, 1, 0), 0);
        dueFraction("0 * x", x, 2, 0, 1);
        due("div", x.div(2, 1, 0), 0);
        dueFraction("0 : x", x, 2, 0, 1);
        due("x : 0", x.div(0, 0, 1), 2);
        due("0 : 0", x.div(0, 1, 1), 2);
        dueFraction("unchanged", x, 0, -5, 7);
        x = with(1, LEAST, GREATEST, GREATEST, LEAST);
        due("room only in lowest terms", x.mul(2, 0, 1), 0);
        dueFraction("room only in lowest terms", x, 2, 1, 1);
        due("no room", x.div(2, 0, 1), 1);
        due("no room", x.mul(2, 0, 0), 1);
        dueFraction("unchanged", x, 2, 1, 1);
        x = with(1, 1, 65536, 65536, 1);
        due("no room below", x.mul(2, 0, 0), 1);
        due("no room below", x.div(2, 0, 1), 1);
        due("no room above", x.mul(2, 1, 1), 1);
        due("no room above", x.div(2, 1, 0), 1);
        x = with(1, 1, 1, 0, 1);
        for (int r : NO_REGISTERS) {
            due("no register", x.mul(r, 0, 0), 3);
            due("no register", x.mul(2, r, 0), 3);
            due("no register", x.mul(2, 0, r), 3);
            due("no register", x.div(r, 0, 0), 3);
            due("no register", x.div(2, r, 0), 3);
            due("no register", x.div(2, 0, r), 3);
            due("no register goes before over 0", x.div(r, 0, 1), 3);
            due("no register goes before over 0", x.div(2, r, 1), 3);
        }
        dueFraction("unchanged", x, 2, 0, 1);
    }

    private static void cmp() {
        int[][] rising = {
            {LEAST, 1}, {LEAST + 1, 1}, {-2, 1}, {-1, 1}, {-1, 2}, {-1, GREATEST},
            {0, 1}, {-1, LEAST}, {1, GREATEST}, {1, 3}, {GREATEST - 2, GREATEST - 1}, {GREATEST - 1, GREATEST}, {1, 1},
            {GREATEST, GREATEST - 1}, {5, 2}, {GREATEST, 1}
        };
        ContinuedRatios x = three(1);
        for (int i = 0; i < rising.length; i++) {
            x = three(1);
            for (int j = 0; j < rising.length; j++) {
                due("set", x.set(0, rising[i][0], rising[i][1]), 0);
                due("set", x.set(1, rising[j][0], rising[j][1]), 0);
                due("cmp " + i + " " + j, x.cmp(0, 1), Integer.compare(i, j));
            }
            due("cmp to itself", x.cmp(0, 0), 0);
        }
        for (int r : NO_REGISTERS) {
            due("no register", x.cmp(r, 0), 2);
            due("no register", x.cmp(0, r), 2);
            due("no register", x.cmp(r, r), 2);
        }
    }

    private static void dueFloor(String what, ContinuedRatios x, int r, boolean fits, int floor) {
        due(what + ": fits", x.fits(r), fits);
        due(what + ": floorSmall", x.floorSmall(r), floor);
        if (!fits) {
            dueBest(what, x, r, 1, NONE, NONE);
            dueBest(what, x, r, 1000, NONE, NONE);
        }
    }

    private static void floors() {
        ContinuedRatios x = with(2, 7, 2, -7, 2);
        dueFloor("7/2", x, 0, true, 3);
        dueFloor("-7/2", x, 1, true, -4);
        dueFloor("0", x, 2, true, 0);
        x = with(2, -1, GREATEST, -8, 2);
        dueFloor("below 0", x, 0, true, -1);
        dueFloor("-4", x, 1, true, -4);
        x = with(2, GREATEST, 1, 1, GREATEST);
        dueFloor("greatest", x, 0, true, GREATEST);
        due("a little more", x.add(2, 0, 1), 0);
        dueFloor("a little more", x, 2, true, GREATEST);
        dueBest("a little more", x, 2, 1000, GREATEST, 1);
        due("set", x.set(1, GREATEST - 1, GREATEST), 0);
        due("much more", x.add(2, 0, 1), 0);
        dueFloor("much more", x, 2, true, GREATEST);
        dueBest("much more", x, 2, 1000, 2147483648L, 1);
        x = with(2, LEAST, -1, LEAST, 1);
        dueFloor("one more", x, 0, false, 0);
        dueFloor("least", x, 1, true, LEAST);
        due("set", x.set(0, 1, GREATEST), 0);
        due("a little less", x.sub(2, 1, 0), 0);
        dueFloor("a little less", x, 2, false, 0);
        due("a little more", x.add(2, 1, 0), 0);
        dueFloor("a little more", x, 2, true, LEAST);
        dueBest("a little more", x, 2, 1000, LEAST, 1);
        x = with(2, GREATEST, 1, 2, 1);
        due("2 ^ 32 - 2", x.mul(2, 0, 1), 0);
        dueFloor("2 ^ 32 - 2", x, 2, false, 0);
        due("2 ^ 32", x.add(2, 2, 1), 0);
        dueFloor("2 ^ 32", x, 2, false, 0);
        due("2 ^ 32 + 2", x.add(2, 2, 1), 0);
        dueFloor("2 ^ 32 + 2", x, 2, false, 0);
        due("0 - (2 ^ 32 + 2)", x.sub(0, 0, 0) + x.sub(2, 0, 2), 0);
        dueFloor("0 - (2 ^ 32 + 2)", x, 2, false, 0);
        for (int r : NO_REGISTERS) {
            dueFloor("no register", x, r, false, 0);
        }
    }

    private static void continuedFractions() {
        ContinuedRatios x = with(8, 415, 93, -415, 93);
        due("nothing begun", x.cfDone(), true);
        due("nothing begun", x.cfNext(), LEAST);
        due("start", x.cfStart(0), true);
        dueQuotients("415/93", x, 4, 2, 6, 7);
        due("start", x.cfStart(1), true);
        dueQuotients("-415/93", x, -5, 1, 1, 6, 7);
        due("start", x.cfStart(2), true);
        dueQuotients("0", x, 0);
        due("set", x.set(2, LEAST + 1, 1), 0);
        due("start", x.cfStart(2), true);
        dueQuotients("least but one", x, LEAST + 1);
        due("set", x.set(2, GREATEST, 1), 0);
        due("start", x.cfStart(2), true);
        dueQuotients("greatest", x, GREATEST);
        // The continued fraction is that of the fraction at the start.
        due("start", x.cfStart(0), true);
        due("first", x.cfNext(), 4);
        due("set", x.set(0, 1, 2), 0);
        due("second", x.cfNext(), 2);
        for (int r : NO_REGISTERS) {
            due("no register", x.cfStart(r), false);
            due("goes on", x.cfDone(), false);
        }
        dueQuotients("goes on", x, 6, 7);
        for (int r : NO_REGISTERS) {
            due("no register", x.cfStart(r), false);
            due("still done", x.cfDone(), true);
        }
        // A new start, before the old one is at its end.
        due("start", x.cfStart(1), true);
        due("first", x.cfNext(), -5);
        due("start", x.cfStart(1), true);
        dueQuotients("anew", x, -5, 1, 1, 6, 7);
    }

    private static void dueStuck(String what, ContinuedRatios x) {
        for (int i = 0; i < 3; i++) {
            due(what + ": stuck", x.cfNext(), LEAST);
            due(what + ": not done", x.cfDone(), false);
        }
    }

    private static void quotientsThatDoNotFit() {
        ContinuedRatios x = with(8, LEAST, 1, LEAST, -1);
        due("start", x.cfStart(0), true);
        dueStuck("least", x);
        due("start", x.cfStart(1), true);
        dueStuck("greatest and one", x);
        x = with(8, LEAST + 1, 1, 1, 3);
        due("below least but one", x.sub(2, 0, 1) + (x.cfStart(2) ? 0 : 1), 0);
        dueStuck("below least but one", x);
        due("above least but one", x.add(2, 0, 1) + (x.cfStart(2) ? 0 : 1), 0);
        dueQuotients("above least but one", x, LEAST + 1, 3);
        x = with(8, -1, LEAST, 5, 1);
        due("5 and 2 ^ -31", x.add(2, 0, 1) + (x.cfStart(2) ? 0 : 1), 0);
        due("first", x.cfNext(), 5);
        dueStuck("second is 2 ^ 31", x);
        due("2 ^ -62", x.mul(0, 0, 0) + x.add(2, 0, 1) + (x.cfStart(2) ? 0 : 1), 0);
        due("first", x.cfNext(), 5);
        dueStuck("second is 2 ^ 62", x);
        due("start", x.cfStart(1), true);
        dueQuotients("leaves it", x, 5);
    }

    private static void limbsAndSigns() {
        ContinuedRatios x = with(3, LEAST, 3, 0, 1);
        due("square", x.mul(1, 0, 0), 0);
        due("cube", x.mul(0, 1, 0), 0);
        int[] upper = {0, 0, 1 << 29};
        for (int i = 0; i < 3; i++) {
            due("upper limb " + i, x.numLimb(0, i), upper[i]);
            due("lower limb " + i, x.denLimb(0, i), i == 0 ? 27 : 0);
        }
        due("sign", x.sign(0), -1);
        due("sign", x.sign(1), 1);
        due("sign", x.sign(2), 0);
        for (int i : new int[] {-1, 3, 4, 8, 16, 17, 19, 20, 32, LEAST, GREATEST}) {
            due("no upper limb " + i, x.numLimb(0, i), 0);
            due("no lower limb " + i, x.denLimb(0, i), 0);
        }
        for (int r : NO_REGISTERS) {
            due("no register", x.numLimb(r, 0), 0);
            due("no register", x.denLimb(r, 0), 0);
            due("no register", x.sign(r), 0);
        }
        // Limbs of a longer number are gone when a shorter one comes.
        due("set", x.set(0, 5, 7), 0);
        dueFraction("shorter", x, 0, 5, 7);
    }

    private static void best() {
        ContinuedRatios x = with(8, 5, 12, -5, 12);
        dueBest("5/12", x, 0, 1, 0, 1);
        dueBest("5/12", x, 0, 2, 1, 2);
        dueBest("5/12 is as near to 1/3 as to 1/2", x, 0, 3, 1, 2);
        dueBest("5/12", x, 0, 5, 2, 5);
        dueBest("5/12", x, 0, 6, 2, 5);
        dueBest("5/12", x, 0, 7, 3, 7);
        dueBest("5/12", x, 0, 11, 3, 7);
        dueBest("5/12", x, 0, 12, 5, 12);
        dueBest("5/12", x, 0, 1000, 5, 12);
        dueBest("-5/12", x, 1, 3, -1, 2);
        dueBest("-5/12", x, 1, 5, -2, 5);
        x = with(8, 7, 12, -7, 12);
        dueBest("7/12 is as near to 1/2 as to 2/3", x, 0, 3, 1, 2);
        dueBest("-7/12", x, 1, 3, -1, 2);
        x = with(8, 7, 2, -7, 2);
        dueBest("7/2: the lesser", x, 0, 1, 3, 1);
        dueBest("-7/2: the lesser", x, 1, 1, -4, 1);
        x = with(8, 1, 1001, 1, 2000);
        dueBest("1/1001", x, 0, 1000, 1, 1000);
        dueBest("1/1001", x, 0, 501, 1, 501);
        dueBest("1/1001", x, 0, 500, 0, 1);
        dueBest("1/2000 is as near to 0 as to 1/1000", x, 1, 1000, 0, 1);
        x = with(8, 1, 1999, -1, 1999);
        dueBest("1/1999", x, 0, 1000, 1, 1000);
        dueBest("1/1999", x, 0, 999, 0, 1);
        dueBest("-1/1999", x, 1, 1000, -1, 1000);
        x = with(8, 1998, 1999, 2147483, 1000);
        dueBest("1998/1999", x, 0, 1000, 999, 1000);
        dueBest("1998/1999", x, 0, 999, 1, 1);
        dueBest("2147483/1000", x, 1, 1000, 2147483, 1000);
        dueBest("0", x, 2, 1, 0, 1);
        dueBest("0", x, 2, 1000, 0, 1);
        for (int most : new int[] {0, -1, 1001, LEAST, GREATEST}) {
            dueBest("most", x, 0, most, NONE, NONE);
        }
        for (int part : new int[] {-1, 2, LEAST, GREATEST}) {
            due("part " + part, x.best(0, 10, part), NONE);
        }
        for (int r : NO_REGISTERS) {
            dueBest("no register", x, r, 10, NONE, NONE);
        }
    }

    /** Asking changes nothing: neither the registers nor the continued fraction that was begun. */
    private static void asking() {
        ContinuedRatios x = with(1, 415, 93, LEAST, 1);
        due("start", x.cfStart(0), true);
        due("first", x.cfNext(), 4);
        due("cmp", x.cmp(0, 1), 1);
        due("fits", x.fits(1), true);
        due("floor", x.floorSmall(0), 4);
        dueBest("415/93", x, 0, 50, 58, 13);
        due("no room", x.mul(0, 1, 1), 1);
        due("no room", x.sub(0, 0, 1), 1);
        due("over 0", x.div(0, 0, 2), 2);
        due("over 0", x.set(0, 1, 0), 2);
        due("no register", x.add(0, 0, 3), 3);
        dueFraction("unchanged", x, 0, 415, 93);
        dueFraction("unchanged", x, 1, LEAST, 1);
        dueQuotients("goes on", x, 2, 6, 7);
    }

    public static void main(String[] args) {
        newObject();
        set();
        addAndSub();
        mulAndDiv();
        cmp();
        floors();
        continuedFractions();
        quotientsThatDoNotFit();
        limbsAndSigns();
        best();
        asking();
        System.out.println(wrong == 0 ? "all promises are kept" : wrong + " answers are not as due");
        if (wrong != 0) {
            System.exit(1);
        }
    }
}
