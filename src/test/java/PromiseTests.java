/** At least one test for each promise of the document: ordinary inputs, edges, wrong inputs. */
public final class PromiseTests {
    private static final String INDEX = "IndexOutOfBoundsException";
    private static final String ARGUMENT = "IllegalArgumentException";
    private static final String STATE = "IllegalStateException";
    private static final String SIGNS = "0123456789saxnt+-*vwp";
    private static final int[] WILD = {Integer.MIN_VALUE, -1000, -1, 10, 100, Integer.MAX_VALUE};

    private static int promise;
    private static int checks;
    private static int wrong;

    interface Call {
        Object answer();
    }

    /** Checks an answer, or the simple name of the exception that is thrown. */
    private static void is(Object due, Call call) {
        String got;
        try {
            got = String.valueOf(call.answer());
        } catch (RuntimeException e) {
            got = e.getClass().getSimpleName();
        }
        checks++;
        if (!got.equals(String.valueOf(due))) {
            wrong++;
            StackTraceElement at = new Throwable().getStackTrace()[1];
            System.out.println("promise " + promise + ", line " + at.getLineNumber() + ": answered " + got
                    + ", due is " + due);
        }
    }

    /** Checks that a call throws, and that nothing is another after it. */
    private static void fails(String due, Treeward x, Call call) {
        long before = x.digest();
        is(due, call);
        is(before, x::digest);
    }

    // ---- desks

    private static void write(Treeward x, String row) {
        x.wipe();
        for (char c : row.toCharArray()) {
            x.type(SIGNS.indexOf(c));
        }
    }

    private static int claim(Treeward x, String row, int end, boolean isStop) {
        write(x, row);
        return x.claim(end, isStop);
    }

    /** Start 10, two steps of 3/2 and 1/2 without interest: 10; 5 15; 5/2 15/2 15/2 45/2. */
    private static Treeward twoSteps() {
        Treeward x = new Treeward();
        x.step(3, 2, 1, 2, 1, 1);
        x.step(3, 2, 1, 2, 1, 1);
        return x;
    }

    /** One step of three ways, 1/2, 1 and 3/2, without interest: 5, 10, 15. */
    private static Treeward threeWays() {
        Treeward x = new Treeward();
        x.step(3, 2, 1, 2, 1, 1);
        x.middle(0, 1, 1);
        return x;
    }

    /** What no call of the first three groups has been made on looks like this. */
    private static void looksNew(Treeward x) {
        int[] due = {0, 0, 0, 0, -1, 0, 0, 0, -1};
        for (int n = 0; n < due.length; n++) {
            int what = n;
            is(due[n], () -> x.house(what));
        }
        is("10", () -> x.price(0, 0, 0));
        is("10", () -> x.price(0, 0, 4));
    }

    // ---- the tree

    private static void p1() {
        looksNew(new Treeward());
        Treeward x = new Treeward();
        is("10x1", () -> x.prices(0, true));
        is(0, x::fault);
        is(".", x::trade);
        is(".", () -> x.played(0));
        is("0", () -> x.least(0));
        is("0", () -> x.worthOf(99, 9, true));
        is(true, x::isSound);
        x.knock();
        x.start(false, 7, 1);
        looksNew(new Treeward());
    }

    private static void p2() {
        Treeward x = new Treeward();
        is(0, () -> x.start(false, 10, 1));
        is(1, () -> x.start(false, 25, 2));
        is(0, () -> x.start(false, 25, 2));
        is("25/2", () -> x.price(0, 0, 0));
        is("10", () -> x.price(0, 0, 4));
        is(1, () -> x.start(true, 9, 9));
        is("1", () -> x.price(0, 0, 4));
        is(0, () -> x.start(true, 1, 1));
        is(1, () -> x.start(false, 99, 9));
        is(0, () -> x.start(false, 11, 1));
        is(7, () -> x.house(5));
        is(1, () -> x.start(false, 1, 9));
        is("1/9", () -> x.price(0, 0, 0));
        fails(ARGUMENT, x, () -> x.start(false, 0, 1));
        fails(ARGUMENT, x, () -> x.start(false, 100, 1));
        fails(ARGUMENT, x, () -> x.start(true, 5, 0));
        fails(ARGUMENT, x, () -> x.start(true, 5, 10));
        fails(ARGUMENT, x, () -> x.start(true, Integer.MIN_VALUE, Integer.MAX_VALUE));
    }

    private static void p3() {
        Treeward x = new Treeward();
        is(0, () -> x.step(9, 1, 1, 9, 9, 9));
        is("9", () -> x.ofStep(0, 0));
        is("1/9", () -> x.ofStep(0, 2));
        is("1", () -> x.ofStep(0, 3));
        is(2, () -> x.nodes(1));
        fails(ARGUMENT, x, () -> x.step(1, 1, 1, 1, 1, 1));
        fails(ARGUMENT, x, () -> x.step(2, 4, 1, 2, 1, 1));
        fails(ARGUMENT, x, () -> x.step(1, 2, 2, 3, 1, 1));
        for (int n = 0; n < 6; n++) {
            for (int bad : new int[] {0, 10, -1, Integer.MIN_VALUE, Integer.MAX_VALUE}) {
                int[] v = {4, 2, 1, 3, 1, 1};
                v[n] = bad;
                is(ARGUMENT, () -> x.step(v[0], v[1], v[2], v[3], v[4], v[5]));
            }
        }
        is(1, () -> x.step(2, 3, 4, 7, 1, 9));
        is(2, () -> x.step(1, 1, 8, 9, 9, 1));
        is(3, () -> x.step(3, 2, 1, 2, 1, 1));
        fails(STATE, x, () -> x.step(3, 2, 1, 2, 1, 1));
        fails(ARGUMENT, x, () -> x.step(3, 2, 3, 2, 1, 1));
        is("2/3", () -> x.ofStep(1, 0));
        is("9", () -> x.ofStep(2, 3));
        is("1", () -> x.ofStep(3, 4));
        is("0", () -> x.ofStep(3, 7));
    }

    private static void p4() {
        Treeward x = twoSteps();
        fails(INDEX, x, () -> x.middle(2, 1, 1));
        fails(INDEX, x, () -> x.middle(-1, 0, 0));
        fails(ARGUMENT, x, () -> x.middle(0, 1, 2));
        fails(ARGUMENT, x, () -> x.middle(0, 3, 2));
        fails(ARGUMENT, x, () -> x.middle(0, 1, 9));
        fails(ARGUMENT, x, () -> x.middle(0, 2, 1));
        for (int bad : WILD) {
            is(ARGUMENT, () -> x.middle(0, bad, 7));
            is(ARGUMENT, () -> x.middle(0, 7, bad));
        }
        is(ARGUMENT, () -> x.middle(0, 7, 0));
        is(6, () -> x.middle(1, 4, 3));
        is(2, () -> x.nodes(1));
        is(9, () -> x.middle(0, 1, 1));
        is(9, () -> x.middle(0, 5, 9));
        is("5/9", () -> x.ofStep(0, 1));
        is("5 50/9 15", () -> x.prices(1, false));
    }

    private static void p5() {
        Treeward x = twoSteps();
        is(1, () -> x.rate(0, 1, 2));
        is("+", () -> x.sure(0));
        is(1, () -> x.rate(0, 3, 2));
        is("-", () -> x.sure(0));
        is(0, () -> x.rate(0, 5, 9));
        is("5/9", () -> x.ofStep(0, 3));
        is("1", () -> x.ofStep(1, 3));
        is(1, () -> x.rate(1, 9, 1));
        is(1, () -> x.rate(1, 1, 9));
        is(0, () -> x.rate(1, 9, 8));
        fails(INDEX, x, () -> x.rate(2, 1, 1));
        fails(INDEX, x, () -> x.rate(-1, 0, 0));
        for (int bad : WILD) {
            is(ARGUMENT, () -> x.rate(0, bad, 1));
            is(ARGUMENT, () -> x.rate(0, 1, bad));
        }
        fails(ARGUMENT, x, () -> x.rate(0, 0, 1));
        fails(ARGUMENT, x, () -> x.rate(0, 1, 0));
    }

    private static void p6() {
        Treeward x = twoSteps();
        is(0, () -> x.pays(0, 1, 1, 2));
        is("1/2s", () -> x.ofStep(0, 7));
        is("5/2 15/2", () -> x.prices(1, false));
        is(1, () -> x.pays(0, 2, 6, 1));
        is("6", () -> x.ofStep(0, 7));
        is("5 9", () -> x.prices(1, false));
        is(2, () -> x.pays(0, 2, 5, 1));
        is("5 10", () -> x.prices(1, false));
        is(2, () -> x.pays(0, 2, 9, 9));
        is("4 14", () -> x.prices(1, false));
        is(2, () -> x.pays(0, 0, 9, 1));
        is("0", () -> x.ofStep(0, 7));
        is("5 15", () -> x.prices(1, false));
        is(0, () -> x.pays(0, 1, 0, 3));
        is("0s", () -> x.ofStep(0, 7));
        is(1, () -> x.pays(0, 1, 4, 9));
        fails(INDEX, x, () -> x.pays(2, 0, 0, 1));
        fails(INDEX, x, () -> x.pays(-1, 7, 0, 1));
        fails(ARGUMENT, x, () -> x.pays(0, 3, 1, 1));
        fails(ARGUMENT, x, () -> x.pays(0, -1, 1, 1));
        fails(ARGUMENT, x, () -> x.pays(0, 1, 5, 9));
        fails(ARGUMENT, x, () -> x.pays(0, 2, 10, 1));
        fails(ARGUMENT, x, () -> x.pays(0, 2, -1, 1));
        fails(ARGUMENT, x, () -> x.pays(0, 0, 1, 0));
        fails(ARGUMENT, x, () -> x.pays(0, 0, 1, 10));
        fails(ARGUMENT, x, () -> x.pays(0, 0, 10, 1));
        fails(ARGUMENT, x, () -> x.pays(0, 1, Integer.MIN_VALUE, 9));
    }

    private static void p7() {
        Treeward x = threeWays();
        is("1", () -> x.ofStep(0, 5));
        is(1, () -> x.beside(0, 2, 1, 1, 3));
        is("2", () -> x.ofStep(0, 4));
        is("7/6", () -> x.ofStep(0, 5));
        is("1/3", () -> x.ofStep(0, 6));
        is("10/3", () -> x.price(1, 0, 4));
        is("35/3", () -> x.price(1, 1, 4));
        is("20", () -> x.price(1, 2, 4));
        is(-1, () -> x.beside(0, 1, 3, 2, 1));
        is(0, () -> x.beside(0, 2, 4, 4, 8));
        is("1/2", () -> x.ofStep(0, 5));
        fails(INDEX, x, () -> x.beside(1, 1, 1, 1, 1));
        fails(INDEX, x, () -> x.beside(-1, 0, 0, 0, 0));
        for (int n = 0; n < 4; n++) {
            for (int bad : new int[] {0, 10, -3, Integer.MIN_VALUE, Integer.MAX_VALUE}) {
                int[] v = {4, 2, 1, 3};
                v[n] = bad;
                is(ARGUMENT, () -> x.beside(0, v[0], v[1], v[2], v[3]));
            }
        }
        is("1/2", () -> x.ofStep(0, 4));
    }

    private static void p8() {
        Treeward none = new Treeward();
        fails(STATE, none, none::unstep);
        Treeward x = twoSteps();
        claim(x, "s", 1, false);
        is(1, x::unstep);
        fails(STATE, x, x::unstep);
        is("5 15", () -> x.prices(1, false));
        x.drop();
        is(0, x::unstep);
        is("10", () -> x.prices(0, false));
        is(STATE, x::unstep);
        x.step(2, 1, 1, 2, 1, 1);
        is("1", () -> x.ofStep(0, 5));
        is(".", () -> x.ofStep(0, 1));
        Treeward y = threeWays();
        y.pays(0, 1, 1, 2);
        y.beside(0, 2, 1, 1, 2);
        y.unstep();
        y.step(2, 1, 1, 2, 1, 1);
        is("0", () -> y.ofStep(0, 7));
        is("1", () -> y.ofStep(0, 4));
        is(2, () -> y.nodes(1));
    }

    // ---- claims

    private static void p9() {
        Treeward x = twoSteps();
        is(-9, () -> x.claim(1, false));
        is(1, () -> x.house(6));
        is(2, () -> x.house(5));
        is(0, () -> x.house(1));
        write(x, "s+");
        fails(ARGUMENT, x, () -> x.claim(0, false));
        fails(ARGUMENT, x, () -> x.claim(3, true));
        fails(ARGUMENT, x, () -> x.claim(Integer.MIN_VALUE, true));
        is(1, () -> x.house(6));
        write(x, "ss");
        is(-9, () -> x.claim(2, true));
        is(2, () -> x.house(6));
        write(x, "sa-p");
        is(0, () -> x.claim(2, true));
        is(5, () -> x.type(1));
        is(-9, () -> x.claim(2, true));
        x.wipe();
        x.type(10);
        is(1, () -> x.claim(1, false));
        is(2, () -> x.claim(1, false));
        is(3, () -> x.claim(1, false));
        fails(STATE, x, () -> x.claim(1, false));
        fails(ARGUMENT, x, () -> x.claim(3, false));
        x.wipe();
        fails(STATE, x, () -> x.claim(1, false));
        is(3, () -> x.house(6));
        is("sa-p", () -> x.told(0));
        is(2, () -> x.ofClaim(0, 0));
        is(1, () -> x.ofClaim(0, 1));
        is(0, () -> x.ofClaim(1, 1));
        is(0, () -> x.ofClaim(0, 2));
        is(0, () -> x.ofClaim(0, 3));
        is(0, () -> x.ofClaim(0, 4));
        Treeward empty = new Treeward();
        write(empty, "s");
        fails(ARGUMENT, empty, () -> empty.claim(1, false));
        fails(ARGUMENT, empty, () -> empty.claim(0, false));
    }

    private static void p10() {
        Treeward x = twoSteps();
        claim(x, "7", 2, false);
        int[][] walls = {{1, 15}, {2, 15}, {3, 5}, {4, 5}, {1, 16}, {2, 16}, {3, 4}, {4, 4}};
        String[][] due = {{"0", "0", "7", "0", "0", "7", "7"}, {"7", "7", "0", "7", "7", "0", "0"},
            {"0", "7", "0", "7", "7", "0", "0"}, {"7", "0", "7", "0", "0", "7", "7"},
            {"0", "0", "0", "0", "0", "0", "7"}, {"7", "7", "7", "7", "7", "7", "0"},
            {"0", "0", "0", "7", "0", "0", "0"}, {"7", "7", "7", "0", "7", "7", "7"}};
        int before = 0;
        for (int n = 0; n < walls.length; n++) {
            int[] wall = walls[n];
            is(before, () -> x.wall(0, wall[0], wall[1], 1));
            before = wall[0];
            int[][] nodes = {{0, 0}, {1, 0}, {1, 2}, {2, 0}, {2, 2}, {2, 6}, {2, 8}};
            for (int k = 0; k < nodes.length; k++) {
                int[] node = nodes[k];
                is(due[n][k], () -> x.due(0, node[0], node[1]));
            }
        }
        is(4, () -> x.wall(0, 1, 99, 9));
        is(1, () -> x.wall(0, 0, 1, 9));
        is("7", () -> x.due(0, 2, 0));
        is(0, () -> x.ofClaim(0, 2));
        fails(INDEX, x, () -> x.wall(1, 0, 1, 1));
        fails(INDEX, x, () -> x.wall(-1, 9, 0, 0));
        fails(ARGUMENT, x, () -> x.wall(0, 5, 1, 1));
        fails(ARGUMENT, x, () -> x.wall(0, -1, 1, 1));
        fails(ARGUMENT, x, () -> x.wall(0, 1, 0, 1));
        fails(ARGUMENT, x, () -> x.wall(0, 1, 100, 1));
        fails(ARGUMENT, x, () -> x.wall(0, 1, 1, 0));
        fails(ARGUMENT, x, () -> x.wall(0, 0, 1, 10));
    }

    private static void p11() {
        Treeward x = twoSteps();
        fails(STATE, x, x::drop);
        claim(x, "s", 1, false);
        claim(x, "a", 2, true);
        x.book(1, 5);
        x.quote(1, 5, 1);
        x.wall(1, 2, 5, 1);
        is(1, x::drop);
        is(1, () -> x.house(1));
        is(0, () -> x.house(2));
        is("s", () -> x.told(0));
        claim(x, "x", 2, false);
        is(0, () -> x.ofClaim(1, 3));
        is(0, () -> x.ofClaim(1, 4));
        is(0, () -> x.ofClaim(1, 2));
        is("45/2", () -> x.due(1, 2, 8));
        is(1, x::drop);
        is(0, x::drop);
        fails(STATE, x, x::drop);
    }

    // ---- book, quotes, play

    private static void p12() {
        Treeward x = twoSteps();
        claim(x, "s", 1, false);
        is(0, () -> x.book(0, 9));
        is(9, () -> x.book(0, -9));
        is(-9, () -> x.ofClaim(0, 3));
        is("-90", () -> x.worthOf(10, 1, false));
        fails(ARGUMENT, x, () -> x.book(0, 10));
        fails(ARGUMENT, x, () -> x.book(0, -10));
        fails(INDEX, x, () -> x.book(1, 1));
        fails(INDEX, x, () -> x.book(-1, 99));
        is(-9, () -> x.book(0, 0));
    }

    private static void p13() {
        Treeward x = twoSteps();
        claim(x, "s", 1, false);
        claim(x, "s", 1, false);
        is(1, () -> x.quote(1, 99, 9));
        is(1, () -> x.quote(1, -99, 1));
        is(2, () -> x.quote(0, 0, 1));
        is(1, () -> x.quote(1, 55, 0));
        is(0, () -> x.ofClaim(1, 4));
        is(1, () -> x.ofClaim(0, 4));
        is(1, () -> x.quote(1, 0, 0));
        fails(INDEX, x, () -> x.quote(2, 1, 1));
        fails(INDEX, x, () -> x.quote(-1, 100, 1));
        fails(ARGUMENT, x, () -> x.quote(0, 100, 1));
        fails(ARGUMENT, x, () -> x.quote(0, -100, 0));
        fails(ARGUMENT, x, () -> x.quote(0, 1, -1));
        fails(ARGUMENT, x, () -> x.quote(0, 1, 10));
        is("0+ 10", x::trade);
    }

    private static void p14() {
        Treeward x = twoSteps();
        is(0, () -> x.fee(1, 2));
        is(1, () -> x.fee(0, 99));
        is(0, () -> x.fee(9, 99));
        is(1, () -> x.fee(9, 18));
        fails(ARGUMENT, x, () -> x.fee(9, 17));
        fails(ARGUMENT, x, () -> x.fee(10, 99));
        fails(ARGUMENT, x, () -> x.fee(-1, 99));
        fails(ARGUMENT, x, () -> x.fee(0, 0));
        fails(ARGUMENT, x, () -> x.fee(0, 100));
        fails(ARGUMENT, x, () -> x.fee(Integer.MIN_VALUE, 1));
        claim(x, "s9-p", 1, false);
        x.fee(1, 10);
        x.sell(0);
        is("3/5", () -> x.played(4));
        x.fee(0, 1);
        is("3/5", () -> x.played(4));
    }

    private static void p15() {
        Treeward x = twoSteps();
        claim(x, "s9-p", 1, false);
        claim(x, "s9-p", 2, true);
        fails(INDEX, x, () -> x.sell(2));
        fails(INDEX, x, () -> x.sell(-1));
        is(2, () -> x.sell(1));
        is(1, () -> x.house(3));
        is(0, () -> x.house(4));
        x.day(2);
        is(1, () -> x.sell(0));
        is(0, () -> x.house(4));
        is("0", () -> x.played(4));
        is("3/5", () -> x.played(1));
        is("-3", () -> x.played(0));
        is("0", () -> x.played(3));
        x.sell(1);
        is("27/40", () -> x.played(1));
        x.day(2);
        x.day(2);
        is("45/2", () -> x.played(2));
        x.sell(1);
        x.day(2);
        is("15", () -> x.played(2));
        is("9/10", () -> x.played(1));
        x.rate(1, 2, 1);
        fails(STATE, x, () -> x.sell(1));
        is(1, () -> x.sell(0));
    }

    private static void p16() {
        Treeward x = twoSteps();
        x.pays(0, 2, 1, 1);
        claim(x, "s9-p", 2, false);
        fails(STATE, x, () -> x.day(0));
        fails(STATE, x, () -> x.day(1));
        fails(ARGUMENT, x, () -> x.day(3));
        fails(ARGUMENT, x, () -> x.day(-1));
        x.sell(0);
        fails(ARGUMENT, x, () -> x.day(1));
        fails(ARGUMENT, x, () -> x.day(Integer.MAX_VALUE));
        is("3/5", () -> x.played(1));
        is("-3", () -> x.played(0));
        is(1, () -> x.day(2));
        is("14", () -> x.played(2));
        is("6/7", () -> x.played(1));
        is("-6", () -> x.played(0));
        is("0", () -> x.played(3));
        is(2, () -> x.day(0));
        is(2, () -> x.house(3));
        is("0", () -> x.played(1));
        is("0", () -> x.played(0));
        is("7", () -> x.played(2));
        fails(STATE, x, () -> x.day(0));
        fails(STATE, x, () -> x.day(1));
        fails(ARGUMENT, x, () -> x.day(3));
        dayWithFees();
    }

    /** A fee goes off at the first trade and at each change of pieces, but not at the end. */
    private static void dayWithFees() {
        Treeward x = twoSteps();
        x.rate(0, 9, 8);
        claim(x, "s9-p", 2, false);
        x.fee(1, 10);
        x.sell(0);
        is("27/40", () -> x.played(1));
        is("27/40", () -> x.played(4));
        is("-27/40", () -> x.played(3));
        x.day(2);
        is("9/10", () -> x.played(1));
        is("81/80", () -> x.played(4));
        is("-351/320", () -> x.played(3));
        x.day(2);
        is("-351/320", () -> x.played(0));
        is("81/80", () -> x.played(4));
        is("0", () -> x.played(1));
    }

    private static void p17() {
        Treeward x = twoSteps();
        fails(STATE, x, x::stop);
        claim(x, "9s-p", 2, false);
        claim(x, "9s-p", 2, true);
        x.sell(0);
        fails(STATE, x, x::stop);
        x.fee(1, 2);
        x.sell(1);
        x.undo();
        x.undo();
        x.sell(1);
        x.day(0);
        is("-1", () -> x.played(1));
        is("9", () -> x.played(0));
        is(1, x::stop);
        is(2, () -> x.house(3));
        is(1, () -> x.house(4));
        is("0", () -> x.played(1));
        is("0", () -> x.played(0));
        fails(STATE, x, x::stop);
        fails(STATE, x, () -> x.day(0));
        x.sell(1);
        is(0, x::stop);
        is("19/8", () -> x.played(0));
        is(0, () -> x.house(4));
        Treeward y = twoSteps();
        claim(y, "s", 2, true);
        y.fee(1, 2);
        y.sell(0);
        is("-5", () -> y.played(3));
        is(1, y::stop);
        is("-5", () -> y.played(0));
        is("5", () -> y.played(4));
    }

    // ---- slip, steps back

    private static void p18() {
        Treeward x = new Treeward();
        fails(ARGUMENT, x, () -> x.type(-1));
        fails(ARGUMENT, x, () -> x.type(21));
        for (int n = 0; n < 7; n++) {
            int sign = n * 3 + 2;
            int many = n + 1;
            is(many, () -> x.type(sign > 20 ? 20 : sign));
        }
        fails(STATE, x, () -> x.type(0));
        fails(ARGUMENT, x, () -> x.type(21));
        is(0, () -> x.house(5));
    }

    private static void p19() {
        Treeward x = twoSteps();
        is(0, x::wipe);
        write(x, "sssss");
        is(5, x::wipe);
        is(0, x::wipe);
        is(0, x::fault);
        is(1, () -> x.type(3));
        is(2, () -> x.house(5));
    }

    private static void p20() {
        Treeward x = new Treeward();
        fails(STATE, x, x::undo);
        long first = x.digest();
        x.start(false, 10, 1);
        is(1, () -> x.house(5));
        is(0, x::undo);
        is(first, x::digest);
        undoesEach();
        for (int n = 1; n <= 11; n++) {
            x.start(false, n, 1);
        }
        is(8, () -> x.house(5));
        for (int n = 10; n >= 3; n--) {
            int due = n;
            is(n - 3, x::undo);
            is(due, () -> x.price(0, 0, 0));
        }
        fails(STATE, x, x::undo);
        x.start(false, 50, 1);
        is(0, x::undo);
        is("3", () -> x.price(0, 0, 0));
        keepsWhatIsNotUndone();
        undoesFeesOfThePlay();
    }

    /** Each change, undone, leaves the digest that there was, as changes undone leave the count. */
    private static void undoesEach() {
        Treeward x = twoSteps();
        claim(x, "9s-p", 2, true);
        claim(x, "s", 2, false);
        x.fee(1, 9);
        x.book(1, 2);
        x.quote(1, 3, 4);
        x.sell(0);
        x.day(0);
        x.undo();
        x.undo();
        x.undo();
        x.sell(0);
        Call[] changes = {() -> x.start(false, 7, 2), () -> x.start(true, 7, 2), () -> x.step(2, 1, 1, 2, 1, 1),
            () -> x.middle(0, 1, 1), () -> x.rate(0, 9, 8), () -> x.pays(0, 1, 1, 9),
            () -> x.beside(0, 2, 1, 1, 1), () -> x.claim(1, true), () -> x.wall(0, 2, 12, 1), x::drop,
            () -> x.book(0, 3), () -> x.quote(0, 3, 1), () -> x.fee(1, 5), () -> x.sell(1), () -> x.day(2),
            x::stop};
        int kept = x.house(5);
        for (int n = 0; n < changes.length; n++) {
            Call change = changes[n];
            boolean isOfTree = n < 10;
            long before = x.digest();
            String played = x.played(0);
            change.answer();
            x.digest();
            is(kept + 1, () -> x.house(5));
            is(isOfTree ? 0 : n == 15 ? 2 : 1, () -> x.house(3));
            is(kept, x::undo);
            is(before, x::digest);
            is(played, () -> x.played(0));
        }
        x.step(2, 1, 1, 2, 1, 1);
        long before = x.digest();
        is(0, () -> x.house(3));
        is(2, x::unstep);
        x.undo();
        is(before, x::digest);
    }

    private static void undoesFeesOfThePlay() {
        Treeward x = twoSteps();
        claim(x, "s9-p", 2, false);
        x.fee(1, 10);
        x.sell(0);
        x.day(2);
        is("81/80", () -> x.played(4));
        x.fee(1, 5);
        x.sell(0);
        x.day(2);
        is("81/40", () -> x.played(4));
        x.undo();
        is("27/20", () -> x.played(4));
        x.undo();
        is("81/80", () -> x.played(4));
        x.undo();
        x.undo();
        is("27/40", () -> x.played(4));
        x.day(2);
        is("81/80", () -> x.played(4));
    }

    private static void keepsWhatIsNotUndone() {
        Treeward x = twoSteps();
        x.knock();
        write(x, "s+");
        x.claim(1, false);
        x.undo();
        is(1, () -> x.house(0));
        is(1, x::fault);
        is(2, x::wipe);
        is(1, () -> x.house(6));
        is(1, () -> x.house(7));
        is(1, () -> x.house(5));
        x.undo();
        is(0, () -> x.house(0));
        is(STATE, x::undo);
    }

    private static void p21() {
        Treeward x = new Treeward();
        is(1, x::knock);
        is(2, x::knock);
        is(2, () -> x.house(7));
        is(0, () -> x.house(5));
        Treeward y = new Treeward();
        is(1, y::knock);
    }

    // ---- what is asked of the tree

    private static void p22() {
        Treeward x = threeWays();
        x.step(2, 1, 1, 4, 1, 1);
        x.pays(1, 2, 5, 1);
        x.beside(0, 3, 1, 1, 1);
        String[][] due = {{"10", "10", "10", "10", "10", "0"}, {"5", "15/2", "10", "5", "10", "0"},
            {"10", "10", "10", "10", "20", "0"}, {"15", "25/2", "15", "10", "30", "0"},
            {"5/4", "65/12", "10", "5/4", "10", "0"}, {"5", "20/3", "10", "5", "10", "5"},
            {"15", "35/3", "15", "10", "20", "5"}, {"25", "50/3", "25", "10", "30", "5"}};
        int[][] nodes = {{0, 0}, {1, 0}, {1, 1}, {1, 2}, {2, 0}, {2, 2}, {2, 5}, {2, 8}};
        for (int n = 0; n < nodes.length; n++) {
            for (int k = 0; k < 6; k++) {
                int[] node = nodes[n];
                int what = k;
                is(due[n][k], () -> x.price(node[0], node[1], what));
            }
        }
        fails(INDEX, x, () -> x.price(2, 1, 0));
        fails(INDEX, x, () -> x.price(2, 7, 0));
        fails(INDEX, x, () -> x.price(2, 9, 0));
        fails(INDEX, x, () -> x.price(2, -1, 0));
        fails(INDEX, x, () -> x.price(3, 0, 0));
        fails(INDEX, x, () -> x.price(-1, 0, 9));
        fails(INDEX, x, () -> x.price(0, 1, 6));
        fails(INDEX, x, () -> x.price(1, 3, 6));
        fails(ARGUMENT, x, () -> x.price(0, 0, 6));
        fails(ARGUMENT, x, () -> x.price(2, 8, -1));
        fails(INDEX, x, () -> x.price(Integer.MAX_VALUE, Integer.MIN_VALUE, 0));
        is(INDEX, () -> x.price(1, Integer.MAX_VALUE, 0));
    }

    private static void p23() {
        Treeward x = threeWays();
        x.step(2, 1, 1, 4, 1, 1);
        x.step(2, 1, 1, 4, 1, 1);
        x.step(2, 1, 1, 4, 1, 1);
        int[] due = {1, 3, 6, 12, 24};
        for (int n = 0; n < 5; n++) {
            int step = n;
            is(due[n], () -> x.nodes(step));
        }
        for (int n = 1; n < 4; n++) {
            x.middle(n, 1, 1);
        }
        is(81, () -> x.nodes(4));
        fails(INDEX, x, () -> x.nodes(5));
        fails(INDEX, x, () -> x.nodes(-1));
    }

    private static void p24() {
        Treeward x = twoSteps();
        is("10", () -> x.prices(0, false));
        is("10x1", () -> x.prices(0, true));
        is("5/2 15/2 45/2", () -> x.prices(2, false));
        is("5/2x1 15/2x2 45/2x1", () -> x.prices(2, true));
        is("5x1 15x1", () -> x.prices(1, true));
        x.middle(0, 1, 1);
        is("5/2x1 5x1 15/2x2 15x1 45/2x1", () -> x.prices(2, true));
        fails(INDEX, x, () -> x.prices(3, true));
        fails(INDEX, x, () -> x.prices(-1, false));
        Treeward full = new Treeward();
        for (int n = 0; n < 4; n++) {
            full.step(2, 1, 1, 2, 1, 1);
            full.middle(n, 1, 1);
        }
        is("5/8x1 5/4x4 5/2x10 5x16 10x19 20x16 40x10 80x4 160x1", () -> full.prices(4, true));
        Treeward alike = new Treeward();
        alike.step(3, 2, 1, 2, 1, 1);
        alike.pays(0, 2, 9, 1);
        is("5x1 6x1", () -> alike.prices(1, true));
        alike.start(false, 9, 1);
        is("9/2x2", () -> alike.prices(1, true));
    }

    private static void p25() {
        Treeward x = twoSteps();
        is(".", () -> x.sure(0));
        x.rate(0, 1, 3);
        is("+", () -> x.sure(0));
        is(".", () -> x.sure(1));
        x.rate(0, 1, 2);
        is("+", () -> x.sure(0));
        x.rate(0, 3, 2);
        is("-", () -> x.sure(0));
        x.rate(0, 8, 1);
        is("-", () -> x.sure(0));
        fails(INDEX, x, () -> x.sure(2));
        fails(INDEX, x, () -> x.sure(-1));
    }

    private static void p26() {
        Treeward x = new Treeward();
        x.step(3, 2, 2, 3, 9, 8);
        is("11/20", () -> x.weight(0, 2));
        is("9/20", () -> x.weight(0, 0));
        fails(ARGUMENT, x, () -> x.weight(0, 1));
        fails(ARGUMENT, x, () -> x.weight(0, 3));
        fails(ARGUMENT, x, () -> x.weight(0, -1));
        fails(INDEX, x, () -> x.weight(1, 1));
        fails(INDEX, x, () -> x.weight(-1, 2));
        x.rate(0, 3, 2);
        is(".", () -> x.weight(0, 2));
        x.rate(0, 2, 3);
        is(".", () -> x.weight(0, 0));
        is(ARGUMENT, () -> x.weight(0, 1));
        x.rate(0, 9, 8);
        x.middle(0, 1, 1);
        is(".", () -> x.weight(0, 0));
        is(".", () -> x.weight(0, 2));
    }

    private static void p27() {
        Treeward x = new Treeward();
        is(-1, x::unfair);
        x.step(3, 2, 1, 2, 1, 1);
        x.step(3, 2, 2, 3, 9, 8);
        is(1, x::unfair);
        x.beside(1, 3, 2, 2, 3);
        is(-1, x::unfair);
        x.beside(0, 3, 2, 1, 3);
        is(0, x::unfair);
        x.beside(0, 5, 3, 1, 3);
        is(-1, x::unfair);
        x.beside(0, 5, 3, 2, 3);
        x.beside(1, 1, 1, 1, 1);
        x.middle(0, 1, 1);
        is(1, x::unfair);
        x.rate(1, 3, 2);
        is(-1, x::unfair);
    }

    private static void p28() {
        Treeward x = new Treeward();
        x.step(6, 4, 3, 9, 8, 9);
        String[] due = {"3/2", ".", "1/3", "8/9", "1", "1", "1", "0"};
        for (int n = 0; n < 8; n++) {
            int what = n;
            is(due[n], () -> x.ofStep(0, what));
        }
        x.middle(0, 9, 9);
        x.beside(0, 9, 2, 2, 7);
        x.pays(0, 2, 6, 4);
        String[] then = {"3/2", "1", "1/3", "8/9", "9/2", "67/28", "2/7", "3/2"};
        for (int n = 0; n < 8; n++) {
            int what = n;
            is(then[n], () -> x.ofStep(0, what));
        }
        x.pays(0, 1, 2, 6);
        is("1/3s", () -> x.ofStep(0, 7));
        x.pays(0, 2, 0, 1);
        is("0", () -> x.ofStep(0, 7));
        fails(INDEX, x, () -> x.ofStep(1, 0));
        fails(INDEX, x, () -> x.ofStep(-1, 9));
        fails(ARGUMENT, x, () -> x.ofStep(0, 8));
        fails(ARGUMENT, x, () -> x.ofStep(0, -1));
    }

    // ---- what is asked of claims

    private static void p29() {
        Treeward x = twoSteps();
        x.beside(0, 2, 1, 1, 2);
        String[] rows = {"0", "9", "s", "a", "x", "n", "t", "s3+", "3s-", "ss*", "s8v", "s8w", "8sv", "8sw", "3s-p",
            "sp", "st*", "tt*s+", "ss*s*s*", "ss*t-", "tss*v", "92-", "29-p", "as-xn-*"};
        String[] due = {"0", "9", "15/2", "65/6", "15", "15/2", "20", "21/2", "-9/2", "225/4", "8", "15/2", "8",
            "15/2", "0", "15/2", "150", "815/2", "50625/16", "145/4", "225/4", "7", "0", "25"};
        for (int n = 0; n < rows.length; n++) {
            String row = rows[n];
            claim(x, row, 2, n % 2 == 0);
            is(due[n], () -> x.due(0, 2, 6));
            x.drop();
        }
        claim(x, "s", 1, false);
        x.rate(0, 9, 1);
        is("15", () -> x.due(0, 1, 2));
        is("10", () -> x.due(0, 0, 0));
        fails(INDEX, x, () -> x.due(0, 2, 0));
        fails(INDEX, x, () -> x.due(0, 1, 1));
        fails(INDEX, x, () -> x.due(0, 1, 3));
        fails(INDEX, x, () -> x.due(0, -1, 0));
        fails(INDEX, x, () -> x.due(1, 0, 0));
        fails(INDEX, x, () -> x.due(-1, 0, 0));
    }

    private static void p30() {
        Treeward x = twoSteps();
        claim(x, "s9-p", 2, false);
        is("27/8", () -> x.worth(0, 0, 0, true));
        is("27/8", () -> x.worth(0, 0, 0, false));
        is("27/4", () -> x.worth(0, 1, 2, true));
        is("0", () -> x.worth(0, 1, 0, true));
        is("27/2", () -> x.worth(0, 2, 8, false));
        Treeward y = threeWays();
        claim(y, "s9-p", 1, false);
        is("3", () -> y.worth(0, 0, 0, true));
        is("1", () -> y.worth(0, 0, 0, false));
        claim(y, "9", 1, true);
        is("9", () -> y.worth(1, 0, 0, true));
        y.rate(0, 9, 8);
        is("9", () -> y.worth(1, 1, 0, true));
        is("9", () -> y.worth(1, 0, 0, true));
        claim(y, "s9-p", 1, true);
        is("10/3", () -> y.worth(2, 0, 0, true));
        is("2", () -> y.worth(2, 0, 0, false));
        fails(INDEX, y, () -> y.worth(3, 0, 0, true));
        fails(INDEX, y, () -> y.worth(-1, 0, 0, true));
        fails(INDEX, y, () -> y.worth(0, 2, 0, true));
        fails(INDEX, y, () -> y.worth(0, 1, 3, false));
        y.rate(0, 3, 2);
        fails(STATE, y, () -> y.worth(0, 0, 0, true));
        fails(STATE, y, () -> y.worth(0, 1, 0, true));
        fails(INDEX, y, () -> y.worth(0, 1, 3, true));
        x.rate(1, 9, 1);
        claim(x, "s", 1, false);
        fails(STATE, x, () -> x.worth(0, 2, 8, true));
        is("10", () -> x.worth(1, 0, 0, true));
    }

    private static void p31() {
        Treeward x = threeWays();
        claim(x, "s9-p", 1, false);
        String[] high = {"3/5", "-3", "3"};
        String[] low = {"1/5", "-1", "1"};
        for (int n = 0; n < 3; n++) {
            int what = n;
            is(high[n], () -> x.holding(0, 0, 0, true, what));
            is(low[n], () -> x.holding(0, 0, 0, false, what));
        }
        x.pays(0, 1, 1, 2);
        x.rate(0, 9, 8);
        claim(x, "9", 1, true);
        is("0", () -> x.holding(1, 0, 0, true, 0));
        is("8", () -> x.holding(1, 0, 0, true, 1));
        is("8", () -> x.holding(1, 0, 0, false, 2));
        fails(INDEX, x, () -> x.holding(0, 1, 0, true, 0));
        fails(INDEX, x, () -> x.holding(0, 0, 1, true, 0));
        fails(INDEX, x, () -> x.holding(2, 0, 0, true, 7));
        fails(INDEX, x, () -> x.holding(-1, 0, 0, true, 0));
        fails(ARGUMENT, x, () -> x.holding(0, 0, 0, true, 3));
        fails(ARGUMENT, x, () -> x.holding(0, 0, 0, true, -1));
        x.rate(0, 1, 2);
        fails(STATE, x, () -> x.holding(0, 0, 0, true, 0));
        fails(ARGUMENT, x, () -> x.holding(0, 0, 0, true, 3));
        fails(INDEX, x, () -> x.holding(0, 1, 0, true, 3));
        takesFirstOfAlike();
    }

    /** Of pairs that come to the same, that of the smaller i, then the smaller j is held. */
    private static void takesFirstOfAlike() {
        Treeward x = threeWays();
        claim(x, "s9w", 1, false);
        claim(x, "s9v", 1, false);
        String[][] due = {{"4/5", "1", "9"}, {"2/5", "3", "7"}, {"3/5", "6", "12"}, {"1/5", "8", "10"}};
        for (int n = 0; n < 4; n++) {
            for (int k = 0; k < 3; k++) {
                int c = n / 2;
                boolean isHigh = n % 2 == 0;
                int what = k;
                is(due[n][k], () -> x.holding(c, 0, 0, isHigh, what));
            }
        }
    }

    private static void p32() {
        Treeward x = twoSteps();
        claim(x, "9s-p", 2, true);
        claim(x, "9s-p", 2, false);
        claim(x, "s", 2, true);
        is(false, () -> x.stops(0, 0, 0));
        is(true, () -> x.stops(0, 1, 0));
        is(false, () -> x.stops(0, 1, 2));
        is(false, () -> x.stops(1, 1, 0));
        is(true, () -> x.stops(2, 0, 0));
        x.rate(0, 9, 8);
        is(true, () -> x.stops(2, 1, 0));
        fails(INDEX, x, () -> x.stops(0, 2, 0));
        fails(INDEX, x, () -> x.stops(0, 1, 1));
        fails(INDEX, x, () -> x.stops(3, 0, 0));
        fails(INDEX, x, () -> x.stops(-1, 0, 0));
        x.rate(1, 1, 9);
        fails(STATE, x, () -> x.stops(0, 0, 0));
        fails(INDEX, x, () -> x.stops(0, 2, 0));
        Treeward y = threeWays();
        claim(y, "s9-p", 1, true);
        is(true, () -> y.stops(0, 0, 0));
        is("3", () -> y.worth(0, 0, 0, true));
    }

    private static void p33() {
        Treeward x = twoSteps();
        claim(x, "9s-p", 2, true);
        claim(x, "s", 2, true);
        claim(x, "s", 2, false);
        claim(x, "s6-p", 2, true);
        is("1:0", () -> x.best(0));
        is("0:0", () -> x.best(1));
        is("", () -> x.best(2));
        is("1:2", () -> x.best(3));
        fails(INDEX, x, () -> x.best(4));
        fails(INDEX, x, () -> x.best(-1));
        x.rate(0, 2, 1);
        fails(STATE, x, () -> x.best(0));
        fails(STATE, x, () -> x.best(2));
        Treeward y = new Treeward();
        for (int n = 0; n < 3; n++) {
            y.step(3, 2, 1, 2, 1, 1);
        }
        claim(y, "9s-p", 3, true);
        claim(y, "3s-p", 3, true);
        is("2:0 2:8", () -> y.best(0));
        is("1:2 2:2", () -> y.best(1));
        is(true, () -> y.stops(1, 2, 6));
    }

    private static void p34() {
        Treeward x = threeWays();
        claim(x, "s9-p", 1, false);
        claim(x, "s", 1, false);
        is("2", () -> x.span(0));
        is("0", () -> x.span(1));
        fails(INDEX, x, () -> x.span(2));
        fails(INDEX, x, () -> x.span(-1));
        x.rate(0, 3, 2);
        fails(STATE, x, () -> x.span(0));
    }

    private static void p35() {
        Treeward x = twoSteps();
        claim(x, "s9-p", 1, false);
        is(0, () -> x.implied(0, 3, 1));
        is(0, () -> x.implied(0, -99, 1));
        is(1, () -> x.implied(0, 19, 6));
        is(2, () -> x.implied(0, 10, 3));
        is(10, () -> x.implied(0, 4, 1));
        is(20, () -> x.implied(0, 13, 3));
        is(-1, () -> x.implied(0, 22, 5));
        is(-1, () -> x.implied(0, 99, 1));
        x.rate(0, 2, 1);
        is(6, () -> x.implied(0, -99, 1));
        x.rate(0, 1, 2);
        is(-1, () -> x.implied(0, -99, 1));
        x.rate(0, 1, 1);
        x.rate(1, 9, 1);
        is(0, () -> x.implied(0, 3, 1));
        fails(INDEX, x, () -> x.implied(1, 1, 1));
        fails(INDEX, x, () -> x.implied(-1, 100, 0));
        fails(ARGUMENT, x, () -> x.implied(0, 100, 1));
        fails(ARGUMENT, x, () -> x.implied(0, -100, 1));
        fails(ARGUMENT, x, () -> x.implied(0, 1, 0));
        fails(ARGUMENT, x, () -> x.implied(0, 1, 10));
    }

    private static void p36() {
        Treeward x = twoSteps();
        claim(x, "s7-p", 2, false);
        claim(x, "7s-p", 2, false);
        claim(x, "s", 1, false);
        claim(x, "3", 2, false);
        is("1 -7", () -> x.law(0, 1));
        is("-1 7", () -> x.law(1, 0));
        is("0 0", () -> x.law(0, 0));
        is(".", () -> x.law(0, 2));
        is(".", () -> x.law(0, 3));
        is("0 0", () -> x.law(3, 3));
        x.rate(0, 9, 1);
        is("1 -7", () -> x.law(0, 1));
        x.wall(1, 1, 1, 1);
        is(".", () -> x.law(0, 1));
        is(".", () -> x.law(1, 0));
        x.wall(1, 0, 1, 1);
        is("1 -7", () -> x.law(0, 1));
        x.drop();
        claim(x, "3", 2, true);
        is(".", () -> x.law(3, 3));
        is(".", () -> x.law(0, 3));
        fails(INDEX, x, () -> x.law(4, 0));
        fails(INDEX, x, () -> x.law(0, 4));
        fails(INDEX, x, () -> x.law(-1, -1));
        Treeward y = new Treeward();
        y.start(false, 9, 1);
        y.step(3, 2, 1, 2, 1, 1);
        y.pays(0, 2, 9, 1);
        claim(y, "s", 1, false);
        claim(y, "4", 1, false);
        claim(y, "x", 1, false);
        claim(y, "t", 1, false);
        is("0 1/2", () -> y.law(0, 1));
        is("0 9/2", () -> y.law(2, 0));
        y.beside(0, 2, 1, 1, 2);
        is(".", () -> y.law(3, 0));
    }

    // ---- what is asked of book, quotes, play

    private static void p37() {
        Treeward x = threeWays();
        x.step(2, 1, 1, 2, 1, 1);
        claim(x, "s9-p", 1, false);
        claim(x, "ss*", 1, false);
        is("0", () -> x.worthOf(1, 1, false));
        x.book(0, 2);
        is("6", () -> x.worthOf(10, 1, false));
        is("0", () -> x.worthOf(10, 1, true));
        is("18", () -> x.worthOf(18, 1, false));
        is("12", () -> x.worthOf(18, 1, true));
        x.book(0, 1);
        is("3", () -> x.worthOf(10, 1, false));
        x.book(0, -1);
        is("-1", () -> x.worthOf(10, 1, false));
        x.book(0, -2);
        is("-2", () -> x.worthOf(10, 1, false));
        is("-16", () -> x.worthOf(18, 1, true));
        x.book(1, 3);
        is("373", () -> x.worthOf(10, 1, false));
        is("15/4", () -> x.worthOf(1, 1, false));
        is("-1477/4", () -> x.worthOf(1, 1, true));
        is("10", () -> x.price(0, 0, 0));
        fails(ARGUMENT, x, () -> x.worthOf(0, 1, false));
        fails(ARGUMENT, x, () -> x.worthOf(100, 1, false));
        fails(ARGUMENT, x, () -> x.worthOf(1, 0, true));
        fails(ARGUMENT, x, () -> x.worthOf(1, 10, true));
        x.rate(1, 1, 9);
        is("373", () -> x.worthOf(10, 1, false));
        claim(x, "s", 2, false);
        is("373", () -> x.worthOf(10, 1, false));
        x.book(2, -1);
        fails(STATE, x, () -> x.worthOf(1, 1, false));
        fails(ARGUMENT, x, () -> x.worthOf(100, 1, false));
    }

    private static void p38() {
        Treeward x = twoSteps();
        is("0", () -> x.least(0));
        claim(x, "s", 2, false);
        claim(x, "ss*", 2, true);
        claim(x, "t", 2, false);
        claim(x, "8s-", 1, false);
        is("0", () -> x.least(2));
        x.book(0, 5);
        is("25/2", () -> x.least(2));
        x.book(1, -1);
        is("-1575/4", () -> x.least(2));
        x.book(2, 9);
        is("-1215/4", () -> x.least(2));
        x.book(3, -2);
        is("-6", () -> x.least(1));
        x.book(3, 2);
        is("-14", () -> x.least(1));
        is("0", () -> x.least(0));
        x.rate(0, 9, 1);
        is("-14", () -> x.least(1));
        Treeward y = twoSteps();
        claim(y, "ss*", 1, false);
        claim(y, "1", 1, false);
        y.book(0, 1);
        y.book(1, 1);
        is("26", () -> y.least(1));
        is("0", () -> y.least(2));
        fails(INDEX, x, () -> x.least(3));
        fails(INDEX, x, () -> x.least(-1));
    }

    private static void p39() {
        Treeward x = threeWays();
        is(".", x::trade);
        claim(x, "s9-p", 1, false);
        claim(x, "s", 1, false);
        is(".", x::trade);
        x.quote(0, 3, 1);
        is(".", x::trade);
        x.quote(0, 1, 1);
        is(".", x::trade);
        x.quote(1, 31, 3);
        is("1- 1/3", x::trade);
        x.quote(0, 28, 9);
        is("0- 1/9", x::trade);
        x.quote(0, 1, 9);
        is("0+ 8/9", x::trade);
        x.quote(0, -3, 2);
        is("0+ 5/2", x::trade);
        x.step(2, 1, 1, 2, 9, 1);
        claim(x, "s", 2, false);
        x.quote(2, 99, 1);
        x.quote(0, 1, 0);
        x.quote(1, 10, 1);
        is(".", x::trade);
        x.rate(0, 3, 2);
        x.quote(0, 99, 1);
        is(".", x::trade);
    }

    private static void p40() {
        Treeward x = twoSteps();
        x.rate(0, 9, 8);
        x.pays(0, 1, 1, 3);
        for (int n = 0; n < 5; n++) {
            int what = n;
            is(".", () -> x.played(what));
        }
        fails(ARGUMENT, x, () -> x.played(5));
        fails(ARGUMENT, x, () -> x.played(-1));
        claim(x, "s", 2, false);
        x.sell(0);
        String[] first = {"0", "2/3", "10", "0", "0"};
        for (int n = 0; n < 5; n++) {
            int what = n;
            is(first[n], () -> x.played(what));
        }
        x.fee(1, 4);
        x.day(2);
        String[] then = {"-5/6", "1", "10", "-5/6", "5/6"};
        for (int n = 0; n < 5; n++) {
            int what = n;
            is(then[n], () -> x.played(what));
        }
        x.fee(0, 4);
        x.day(0);
        String[] last = {"-5/6", "0", "5", "-5/6", "5/6"};
        for (int n = 0; n < 5; n++) {
            int what = n;
            is(last[n], () -> x.played(what));
        }
        x.book(0, 1);
        x.quote(0, 1, 1);
        is("5/6", () -> x.played(4));
        x.start(true, 10, 1);
        is(".", () -> x.played(4));
    }

    private static void p41() {
        Treeward x = twoSteps();
        claim(x, "s9-p", 2, true);
        claim(x, "ss*", 1, false);
        x.wall(1, 3, 5, 1);
        x.book(1, -4);
        x.quote(1, 4, 1);
        x.rate(1, 9, 1);
        int[][] due = {{2, 1, 0, 0, 0, 1, 4}, {1, 0, 3, -4, 1, 0, 3}};
        for (int c = 0; c < 2; c++) {
            for (int n = 0; n < 7; n++) {
                int claim = c;
                int what = n;
                is(due[c][n], () -> x.ofClaim(claim, what));
            }
        }
        fails(INDEX, x, () -> x.ofClaim(2, 0));
        fails(INDEX, x, () -> x.ofClaim(-1, 9));
        fails(ARGUMENT, x, () -> x.ofClaim(0, 7));
        fails(ARGUMENT, x, () -> x.ofClaim(0, -1));
    }

    private static void p42() {
        Treeward x = twoSteps();
        claim(x, "01+23-*", 1, false);
        claim(x, "45v67w+", 2, false);
        claim(x, "89*saxn", 1, false);
        claim(x, "sx-p", 1, false);
        is("01+23-*", () -> x.told(0));
        is("45v67w+", () -> x.told(1));
        is("sx-p", () -> x.told(2));
        fails(INDEX, x, () -> x.told(3));
        fails(INDEX, x, () -> x.told(-1));
        claim(x, "ntw89*v", 1, false);
        is("ntw89*v", () -> x.told(3));
    }

    private static void p43() {
        Treeward x = new Treeward();
        String[] rows = {"", "s", "p", "+", "s+", "ss+", "ss", "sp", "sss++", "sss+", "spp", "ss+-", "1s*p",
            "ssssssp", "ss+ss+*", "ss+s+s+", "0-", "pss+s"};
        int[] due = {0, -1, 0, 0, 1, -1, 2, -1, -1, 4, -1, 3, -1, 7, -1, -1, 1, 0};
        for (int n = 0; n < rows.length; n++) {
            write(x, rows[n]);
            is(due[n], x::fault);
        }
    }

    private static void p44() {
        Treeward x = twoSteps();
        claim(x, "s9-p", 2, true);
        x.quote(0, 1, 1);
        x.sell(0);
        x.day(2);
        x.knock();
        x.wipe();
        x.claim(1, true);
        int[] due = {2, 1, 1, 1, 1, 6, 1, 1, -1};
        for (int n = 0; n < 9; n++) {
            int what = n;
            is(due[n], () -> x.house(what));
        }
        x.stop();
        is(2, () -> x.house(3));
        is(1, () -> x.house(4));
        x.rate(1, 9, 1);
        is(1, () -> x.house(8));
        is(0, () -> x.house(3));
        is(-1, () -> x.house(4));
        is(8, () -> x.house(5));
        x.rate(0, 1, 9);
        is(0, () -> x.house(8));
        is(8, () -> x.house(5));
        fails(ARGUMENT, x, () -> x.house(9));
        fails(ARGUMENT, x, () -> x.house(-1));
    }

    private static void p45() {
        Treeward x = new Treeward();
        is(true, x::isSound);
        for (int n = 0; n < 4; n++) {
            x.step(3, 2, 2, 3, 9, 8);
            x.pays(n, 1 + n % 2, 1, 3);
        }
        claim(x, "s9-p", 4, false);
        claim(x, "as-p", 4, true);
        claim(x, "xn-", 3, false);
        x.wall(2, 1, 12, 1);
        is(true, x::isSound);
        x.middle(0, 1, 1);
        x.middle(2, 9, 8);
        is(true, x::isSound);
        x.rate(1, 2, 3);
        is(true, x::isSound);
        x.rate(2, 9, 1);
        is(true, x::isSound);
    }

    private static long fold(long d, String text) {
        long folded = d * 31 + text.length();
        for (char c : text.toCharArray()) {
            folded = folded * 31 + c;
        }
        return folded;
    }

    /** The digest as the document makes it, of the desk's own answers. */
    private static long digestOf(Treeward x) {
        long d = 6900;
        for (int n = 0; n <= 8; n++) {
            d = d * 31 + x.house(n);
        }
        int steps = x.house(0);
        for (int s = 0; s < steps; s++) {
            for (int n = 0; n <= 7; n++) {
                d = fold(d, x.ofStep(s, n));
            }
            d = fold(fold(d, x.sure(s)), x.weight(s, 2));
        }
        d = fold(d, x.prices(steps, true)) * 31 + x.unfair();
        for (int c = 0; c < x.house(1); c++) {
            d = fold(d, x.told(c));
            for (int n = 0; n <= 6; n++) {
                d = d * 31 + x.ofClaim(c, n);
            }
            d = fold(d, x.due(c, 0, 0));
            if (x.ofClaim(c, 5) == 0) {
                d = fold(fold(d, x.worth(c, 0, 0, true)), x.worth(c, 0, 0, false));
                d = fold(fold(d, x.holding(c, 0, 0, true, 0)), x.holding(c, 0, 0, true, 1));
                d = fold(fold(d, x.holding(c, 0, 0, false, 0)), x.holding(c, 0, 0, false, 1));
                d = fold(d, x.best(c));
            }
        }
        d = fold(d, x.trade());
        for (int n = 0; n <= 4; n++) {
            d = fold(d, x.played(n));
        }
        return (d * 31 + x.fault()) * 31 + (x.isSound() ? 1 : 0);
    }

    private static void p46() {
        Treeward x = new Treeward();
        is(digestOf(x), x::digest);
        x.step(3, 2, 2, 3, 9, 8);
        x.step(4, 3, 3, 4, 1, 1);
        x.pays(1, 1, 1, 9);
        is(digestOf(x), x::digest);
        claim(x, "as-p", 2, true);
        claim(x, "s9-p", 1, false);
        x.quote(1, 9, 1);
        x.middle(0, 1, 1);
        is(digestOf(x), x::digest);
        x.fee(1, 9);
        x.sell(0);
        x.day(1);
        is(digestOf(x), x::digest);
        is(x.digest(), x::digest);
        x.rate(1, 1, 9);
        x.type(15);
        x.knock();
        is(digestOf(x), x::digest);
    }

    public static void main(String[] args) {
        Runnable[] promises = {PromiseTests::p1, PromiseTests::p2, PromiseTests::p3, PromiseTests::p4,
            PromiseTests::p5, PromiseTests::p6, PromiseTests::p7, PromiseTests::p8, PromiseTests::p9,
            PromiseTests::p10, PromiseTests::p11, PromiseTests::p12, PromiseTests::p13, PromiseTests::p14,
            PromiseTests::p15, PromiseTests::p16, PromiseTests::p17, PromiseTests::p18, PromiseTests::p19,
            PromiseTests::p20, PromiseTests::p21, PromiseTests::p22, PromiseTests::p23, PromiseTests::p24,
            PromiseTests::p25, PromiseTests::p26, PromiseTests::p27, PromiseTests::p28, PromiseTests::p29,
            PromiseTests::p30, PromiseTests::p31, PromiseTests::p32, PromiseTests::p33, PromiseTests::p34,
            PromiseTests::p35, PromiseTests::p36, PromiseTests::p37, PromiseTests::p38, PromiseTests::p39,
            PromiseTests::p40, PromiseTests::p41, PromiseTests::p42, PromiseTests::p43, PromiseTests::p44,
            PromiseTests::p45, PromiseTests::p46};
        for (int n = 0; n < promises.length; n++) {
            promise = n + 1;
            promises[n].run();
        }
        System.out.println(wrong == 0 ? checks + " answers are as due" : wrong + " answers are not as due");
        if (wrong != 0) {
            System.exit(1);
        }
    }
}
