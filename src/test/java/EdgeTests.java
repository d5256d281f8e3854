import java.math.BigInteger;
import java.util.Arrays;
import java.util.IdentityHashMap;
import java.util.Map;

/**
 * For each sentence of the document that names a boundary case a test of its own. Numbers and texts
 * that are due were reckoned by hand from the document; whether a call changed nothing, or was
 * undone, is seen by comparing the desk with one on which it was not made.
 */
public final class EdgeTests {
    private static final String INDEX = "IndexOutOfBoundsException";
    private static final String ARGUMENT = "IllegalArgumentException";
    private static final String STATE = "IllegalStateException";
    private static final String SIGNS = "0123456789saxnt+-*vwp";
    private static final int LEAST = Integer.MIN_VALUE;
    private static final int MOST = Integer.MAX_VALUE;

    interface Maker {
        Treeward make();
    }

    interface Ask {
        Object of(Treeward x);
    }

    interface AskWith {
        Object of(Treeward x, int value);
    }

    private static final Map<Maker, String> TRAILS = new IdentityHashMap<>();
    private static final Maker NEW = Treeward::new;
    private static final Maker TWO = EdgeTests::twoSteps;
    private static final Maker THREE = EdgeTests::threeWays;
    private static final Maker BUSY = EdgeTests::busy;
    private static final Maker BUSY_FULL = EdgeTests::busyAndFull;
    private static final Maker ONE = EdgeTests::oneStep;
    private static final Maker FOUR = EdgeTests::fourSteps;
    private static final Maker WIDE = EdgeTests::wideStep;
    private static final Maker SEVENS = EdgeTests::sevens;
    private static final Maker FULL_SLIP = EdgeTests::fullSlip;
    private static final Maker REFUSED = EdgeTests::refusedClaim;
    private static final Maker SOLD = EdgeTests::soldThree;
    private static final Maker OVER = EdgeTests::overThree;
    private static final Maker EARLY = EdgeTests::endsEarly;

    private static String sentence = "";
    private static int sentences;
    private static int checks;
    private static int checksBefore;
    private static int wrong;

    // ---- how it is tested

    /** Begins the test of a sentence; each has to check something. */
    private static void says(String words) {
        if (!sentence.isEmpty() && checks == checksBefore) {
            tell("nothing is checked");
        }
        sentence = words;
        sentences++;
        checksBefore = checks;
    }

    private static void tell(String text) {
        wrong++;
        System.out.println(sentence + "\n    " + text);
    }

    private static String answer(Treeward x, Ask ask) {
        try {
            return String.valueOf(ask.of(x));
        } catch (RuntimeException e) {
            return e.getClass().getSimpleName();
        }
    }

    private static void alike(Object due, Object got) {
        checks++;
        if (!String.valueOf(due).equals(String.valueOf(got))) {
            StackTraceElement[] at = new Throwable().getStackTrace();
            int n = 0;
            while (n < at.length - 1 && "alike is fails bounds row".contains(at[n].getMethodName())) {
                n++;
            }
            tell("line " + at[n].getLineNumber() + ": answered " + got + ", due is " + due);
        }
    }

    private static void is(Object due, Treeward x, Ask ask) {
        alike(due, answer(x, ask));
    }

    /** Checks that a call throws, and that the desk then is as one on which it was not made. */
    private static void fails(String due, Maker maker, Ask ask) {
        Treeward x = maker.make();
        is(due, x, ask);
        if (!TRAILS.containsKey(maker)) {
            TRAILS.put(maker, trail(maker.make()));
        }
        alike(TRAILS.get(maker), trail(x));
    }

    /** Checks that least and most are taken, and what is beyond them is not. */
    private static void bounds(String due, int least, int most, Maker maker, AskWith ask) {
        for (int value : new int[] {least, most}) {
            Treeward x = maker.make();
            String got = answer(x, y -> ask.of(y, value));
            alike("taken: " + value, (got.endsWith("Exception") ? got : "taken") + ": " + value);
        }
        for (int value : new int[] {least - 1, most + 1, LEAST, MOST}) {
            fails(due, maker, x -> ask.of(x, value));
        }
    }

    /** What a desk tells, and tells again as all that can be undone is undone. */
    private static String trail(Treeward x) {
        StringBuilder text = new StringBuilder();
        picture(text, x);
        for (int n = 0; n < 8 && x.house(5) > 0; n++) {
            x.undo();
            picture(text, x);
        }
        text.append(x.fault()).append(' ').append(x.wipe()).append(' ').append(x.fee(0, 1));
        return text.toString();
    }

    private static void picture(StringBuilder text, Treeward x) {
        text.append(x.digest()).append(' ').append(x.price(0, 0, 4));
        for (int n = 0; n < x.house(1); n++) {
            int claim = n;
            int end = x.ofClaim(n, 0);
            text.append(' ').append(x.due(claim, end, 0));
            text.append(' ').append(x.due(claim, end, (int) Math.pow(3, end) - 1));
        }
        text.append(' ').append(answer(x, y -> y.worthOf(7, 2, false))).append('\n');
    }

    private static void row(String due, String row) {
        Treeward x = twoSteps();
        claim(x, row, 2, false);
        is(due, x, y -> y.due(0, 0, 0));
        is(row, x, y -> y.told(0));
    }

    // ---- desks

    private static void write(Treeward x, String row) {
        x.wipe();
        for (char c : row.toCharArray()) {
            x.type(SIGNS.indexOf(c));
        }
    }

    private static int claim(Treeward x, String row, int end, boolean isStop) {
        write(x, row);
        return x.claim(end, isStop);
    }

    /** Start 10, a step of 3/2 and 1/2 without interest: 10; 5 15. */
    private static Treeward oneStep() {
        Treeward x = new Treeward();
        x.step(3, 2, 1, 2, 1, 1);
        return x;
    }

    /** Start 10, two steps of 3/2 and 1/2 without interest: 10; 5 15; 5/2 15/2 15/2 45/2. */
    private static Treeward twoSteps() {
        Treeward x = oneStep();
        x.step(3, 2, 1, 2, 1, 1);
        return x;
    }

    private static Treeward fourSteps() {
        Treeward x = twoSteps();
        x.step(3, 2, 1, 2, 1, 1);
        x.step(3, 2, 1, 2, 1, 1);
        return x;
    }

    /** One step of three ways, 1/2, 1 and 3/2, without interest: 10; 5 10 15. */
    private static Treeward threeWays() {
        Treeward x = oneStep();
        x.middle(0, 1, 1);
        return x;
    }

    /** Two steps, two claims, a play at its second node; more changes than can be undone. */
    private static Treeward busy() {
        Treeward x = new Treeward();
        x.start(false, 25, 2);
        x.start(true, 7, 3);
        x.step(3, 2, 1, 2, 1, 1);
        x.step(2, 1, 1, 2, 9, 8);
        x.middle(0, 1, 1);
        x.pays(1, 1, 1, 9);
        x.beside(1, 2, 1, 1, 3);
        claim(x, "9s-p", 2, true);
        claim(x, "t", 1, false);
        x.wall(1, 2, 99, 1);
        x.book(0, 3);
        x.book(1, -2);
        x.quote(0, 1, 2);
        x.fee(1, 9);
        x.sell(0);
        x.day(0);
        x.knock();
        return x;
    }

    /** Like busy, but with as many steps and claims as there can be, and a slip with a fault. */
    private static Treeward busyAndFull() {
        Treeward x = busy();
        x.step(3, 2, 1, 2, 1, 1);
        x.step(3, 2, 1, 2, 1, 1);
        x.claim(4, false);
        x.claim(3, true);
        write(x, "s+");
        x.sell(1);
        return x;
    }

    /** Like busyAndFull, but nothing of its last step, its last claims and its days is as at first. */
    private static Treeward busyAndFar() {
        Treeward x = busyAndFull();
        x.pays(3, 2, 1, 7);
        x.beside(3, 4, 3, 1, 2);
        x.middle(3, 7, 6);
        x.wall(3, 4, 1, 2);
        x.book(3, -4);
        x.quote(2, 99, 1);
        x.sell(2);
        x.fee(1, 5);
        x.day(2);
        x.fee(1, 7);
        x.day(0);
        return x;
    }

    /** A desk on which four steps of three ways, four claims and a play make each call dear. */
    private static Treeward heavy() {
        Treeward x = new Treeward();
        x.start(false, 97, 9);
        x.start(true, 89, 7);
        for (int n = 0; n < 4; n++) {
            x.step(9, 7, 5, 8, 8, 9);
            x.middle(n, 8, 9);
            x.pays(n, 1 + n % 2, 1, 9 - n);
            x.beside(n, 9, 8, 5, 7);
        }
        for (int n = 0; n < 4; n++) {
            claim(x, "sa*x*t*", 4, n % 2 == 0);
            x.book(n, 9 - n);
        }
        x.fee(7, 97);
        x.sell(0);
        return x;
    }

    // ---- the document's introduction and its terms

    private static void ofTheWhole() {
        says("What it is: An object is used for at most 512 calls after it has been made.");
        Treeward x = new Treeward();
        for (int n = 1; n < 512; n++) {
            x.knock();
        }
        is(512, x, Treeward::knock);
        Treeward y = new Treeward();
        for (int n = 0; n < 255; n++) {
            y.start(false, n % 99 + 1, n % 9 + 1);
            y.undo();
        }
        is("10", y, z -> z.price(0, 0, 0));
        is(0, y, z -> z.house(5));
        Treeward dear = heavy();
        long first = dear.digest();
        for (int n = 0; n < 100; n++) {
            is(0, dear, z -> z.implied(3, -99, 1));
            is(81, dear, z -> z.nodes(4));
            is(true, dear, Treeward::isSound);
            is(first, dear, Treeward::digest);
        }

        says("Terms: All numbers that are reckoned with are fractions, exactly.");
        Treeward large = new Treeward();
        large.step(5, 1, 1, 9, 1, 1);
        large.step(2, 1, 1, 9, 1, 1);
        large.step(5, 1, 1, 9, 1, 1);
        large.step(2, 1, 1, 9, 1, 1);
        claim(large, "ss*s*1+", 4, false);
        claim(large, "ss*s*s*", 4, false);
        claim(large, "1ss*s*-", 4, false);
        is("1000000001", large, z -> z.due(0, 4, 80));
        is("1000000000000", large, z -> z.due(1, 4, 80));
        is("-999999999", large, z -> z.due(2, 4, 80));
        large.start(false, 1, 9);
        is("1/12157665459056928801", large, z -> z.due(1, 4, 0));
        Treeward larger = new Treeward();
        larger.start(false, 99, 1);
        for (int n = 0; n < 4; n++) {
            larger.step(9, 1, 1, 9, 1, 1);
        }
        claim(larger, "ss*s*s*", 4, false);
        is(BigInteger.valueOf(99 * 6561).pow(4), larger, z -> z.due(0, 4, 80));

        says("Terms: A fraction is told in lowest terms, and, if the lower one is not 1, \"/\" and that.");
        Treeward told = oneStep();
        told.start(false, 6, 8);
        claim(told, "s", 1, false);
        claim(told, "1s+", 1, false);
        claim(told, "s1-", 1, false);
        claim(told, "ss-", 1, false);
        is("3/4", told, z -> z.due(0, 0, 0));
        is("7/4", told, z -> z.due(1, 0, 0));
        is("-1/4", told, z -> z.due(2, 0, 0));
        is("0", told, z -> z.due(3, 0, 0));
        told.start(false, 20, 4);
        is("5", told, z -> z.due(0, 0, 0));
        is("4", told, z -> z.due(2, 0, 0));
        told.start(false, 9, 9);
        is("1", told, z -> z.due(0, 0, 0));
        is("0", told, z -> z.due(2, 0, 0));
        row("-5", "05-");

        says("Terms: NONE is -1.");
        Treeward none = twoSteps();
        none.beside(0, 3, 2, 1, 2);
        none.beside(1, 3, 2, 1, 2);
        is(-1, none, Treeward::unfair);
        is(-1, none, z -> z.house(4));
        is(-1, none, z -> z.house(8));
        claim(none, "s", 1, false);
        is(-1, none, Treeward::fault);
        is(-1, none, z -> z.implied(0, 11, 1));
    }

    private static void ofAllMethods() {
        says("Terms: Where one of several is taken, it is that with the smallest number.");
        Treeward x = fourSteps();
        x.beside(3, 9, 1, 1, 1);
        x.beside(1, 9, 1, 1, 1);
        is(1, x, Treeward::unfair);
        x.rate(3, 9, 1);
        x.rate(2, 1, 9);
        is(2, x, y -> y.house(8));
        claim(x, "s", 1, false);
        claim(x, "s", 1, false);
        claim(x, "s", 1, false);
        x.quote(2, 99, 1);
        x.quote(1, 9, 1);
        is("1+ 1", x, Treeward::trade);

        says("Terms: REFUSED is -9: nothing changes then.");
        Treeward refused = busy();
        String[] before = told(refused);
        refused.type(15);
        is(-9, refused, y -> y.claim(2, false));
        String[] after = told(refused);
        for (int n = 0; n < before.length; n++) {
            alike(before[n], after[n]);
        }
        is(1, refused, y -> y.house(6));
        is(1, refused, Treeward::fault);
        is(2, refused, Treeward::wipe);

        says("Terms: exceptions go ahead of REFUSED.");
        Treeward empty = twoSteps();
        is(ARGUMENT, empty, y -> y.claim(0, false));
        is(ARGUMENT, empty, y -> y.claim(3, false));
        for (int n = 0; n < 4; n++) {
            claim(empty, "s", 1, false);
        }
        empty.wipe();
        is(STATE, empty, y -> y.claim(1, false));
        is(0, empty, y -> y.house(6));

        says("Terms: A method that throws an exception changes nothing.");
        fails(ARGUMENT, BUSY, y -> y.start(true, 1, 0));
        fails(STATE, BUSY_FULL, y -> y.step(9, 1, 1, 9, 1, 1));
        fails(ARGUMENT, BUSY, y -> y.middle(0, 1, 2));
        fails(INDEX, BUSY, y -> y.rate(2, 1, 1));
        fails(ARGUMENT, BUSY, y -> y.pays(0, 1, 9, 1));
        fails(ARGUMENT, BUSY, y -> y.beside(0, 9, 1, 9, 0));
        fails(STATE, BUSY, Treeward::unstep);
        fails(STATE, BUSY_FULL, y -> y.claim(1, true));
        fails(ARGUMENT, BUSY, y -> y.wall(0, 1, 1, 0));
        fails(STATE, NEW, Treeward::drop);
        fails(ARGUMENT, BUSY, y -> y.book(0, 10));
        fails(ARGUMENT, BUSY, y -> y.quote(0, 1, 10));
        fails(ARGUMENT, BUSY, y -> y.fee(2, 3));
        fails(INDEX, BUSY, y -> y.sell(2));
        fails(ARGUMENT, BUSY, y -> y.day(1));
        fails(STATE, BUSY_FULL, Treeward::stop);
        fails(ARGUMENT, BUSY, y -> y.type(21));
        fails(STATE, NEW, Treeward::undo);
    }

    /** What changes tell, but how often REFUSED was told. */
    private static String[] told(Treeward x) {
        String[] all = new String[16];
        for (int n = 0; n < 9; n++) {
            all[n] = n == 6 ? "" : String.valueOf(x.house(n));
        }
        for (int n = 0; n < 5; n++) {
            all[9 + n] = x.played(n);
        }
        all[14] = x.told(1) + x.due(1, 1, 2) + x.worthOf(10, 1, false);
        all[15] = x.prices(2, true);
        return all;
    }

    private static void severalExceptions() {
        says("Terms: If several exceptions apply, the one that is named first is thrown.");
        fails(ARGUMENT, BUSY_FULL, x -> x.step(1, 1, 1, 1, 1, 1));
        fails(INDEX, BUSY, x -> x.middle(2, 0, 0));
        fails(INDEX, BUSY, x -> x.rate(-1, 0, 0));
        fails(INDEX, BUSY, x -> x.pays(2, 3, -1, 0));
        fails(INDEX, BUSY, x -> x.beside(-1, 0, 0, 0, 0));
        fails(ARGUMENT, BUSY_FULL, x -> x.claim(5, true));
        fails(INDEX, BUSY, x -> x.wall(2, 5, 0, 0));
        fails(INDEX, BUSY, x -> x.book(-1, 10));
        fails(INDEX, BUSY, x -> x.quote(2, 100, 10));
        fails(INDEX, REFUSED, x -> x.sell(1));
        fails(ARGUMENT, NEW, x -> x.day(3));
        fails(ARGUMENT, FULL_SLIP, x -> x.type(21));
        fails(INDEX, BUSY, x -> x.price(3, 0, 6));
        fails(INDEX, BUSY, x -> x.weight(2, 1));
        fails(INDEX, BUSY, x -> x.ofStep(-1, 8));
        fails(INDEX, REFUSED, x -> x.worth(0, 3, 0, true));
        fails(INDEX, REFUSED, x -> x.holding(0, 2, 0, true, 3));
        fails(ARGUMENT, REFUSED, x -> x.holding(0, 0, 0, true, 3));
        fails(INDEX, REFUSED, x -> x.stops(0, 2, 0));
        fails(INDEX, REFUSED, x -> x.best(1));
        fails(INDEX, REFUSED, x -> x.span(-1));
        fails(INDEX, REFUSED, x -> x.implied(1, 100, 0));
        fails(ARGUMENT, REFUSED, x -> x.worthOf(0, 0, true));
        fails(INDEX, REFUSED, x -> x.ofClaim(1, 7));
    }

    private static Treeward refusedClaim() {
        Treeward x = twoSteps();
        claim(x, "s", 2, true);
        x.book(0, 1);
        x.rate(1, 9, 1);
        return x;
    }

    private static Treeward refusedNines() {
        Treeward x = twoSteps();
        claim(x, "9s-p", 2, true);
        x.rate(1, 1, 2);
        return x;
    }

    private static Treeward fullSlip() {
        Treeward x = new Treeward();
        write(x, "ss*s*s*");
        return x;
    }

    // ---- 1. the tree

    private static void terms1() {
        says("1: The STOCK has a START (10 at first), the OTHER one another START (10 at first).");
        Treeward x = new Treeward();
        is("10", x, y -> y.price(0, 0, 0));
        is("10", x, y -> y.price(0, 0, 4));
        x.start(true, 3, 1);
        is("10", x, y -> y.price(0, 0, 0));
        is("3", x, y -> y.price(0, 0, 4));

        says("1: STEPS: at most 4, numbered from 0.");
        Treeward four = fourSteps();
        is(4, four, y -> y.house(0));
        fails(STATE, FOUR, y -> y.step(3, 2, 1, 2, 1, 1));
        is("3/2", four, y -> y.ofStep(0, 0));
        is("3/2", four, y -> y.ofStep(3, 0));
        is(INDEX, four, y -> y.ofStep(4, 0));

        says("1: FACTORS of the OTHER one for DOWN and UP (1 both, at first).");
        Treeward beside = oneStep();
        is("1", beside, y -> y.ofStep(0, 4));
        is("1", beside, y -> y.ofStep(0, 6));
        is("10", beside, y -> y.price(1, 2, 4));

        says("1: for MIDDLE half of their sum.");
        is("1", beside, y -> y.ofStep(0, 5));
        beside.beside(0, 9, 1, 1, 9);
        is("41/9", beside, y -> y.ofStep(0, 5));
        beside.middle(0, 1, 1);
        is("410/9", beside, y -> y.price(1, 1, 4));
        beside.beside(0, 3, 7, 3, 7);
        is("3/7", beside, y -> y.ofStep(0, 5));

        says("1: it PAYS nothing (at first).");
        Treeward pays = oneStep();
        is("0", pays, y -> y.ofStep(0, 7));
        is("0", pays, y -> y.price(1, 2, 5));
        is(0, pays, y -> y.pays(0, 0, 0, 1));

        says("1: A NODE: how many STEPS are behind it (0 to how many there are).");
        fails(INDEX, NEW, y -> y.price(1, 0, 0));
        fails(INDEX, NEW, y -> y.price(-1, 0, 0));
        is("45/2", twoSteps(), y -> y.price(2, 8, 0));
        fails(INDEX, TWO, y -> y.price(3, 0, 0));

        says("1: its CODE has these WAYS as digits by 3, the first STEP's first; 0 at the first NODE.");
        Treeward code = twoSteps();
        code.beside(0, 2, 1, 1, 1);
        is("10", code, y -> y.price(2, 2, 4));
        is("20", code, y -> y.price(2, 6, 4));
        fails(INDEX, TWO, y -> y.price(0, 1, 0));
        fails(INDEX, TWO, y -> y.price(0, -1, 0));

        says("1: a told amount is PAID, if it is less than FULL, otherwise nothing.");
        pays.pays(0, 2, 5, 1);
        is("5 10", pays, y -> y.prices(1, false));
        is("0", pays, y -> y.price(1, 0, 5));
        is("5", pays, y -> y.price(1, 2, 5));
        pays.pays(0, 2, 9, 2);
        is("1/2 21/2", pays, y -> y.prices(1, false));
        is("9/2", pays, y -> y.price(1, 0, 5));
        pays.start(false, 9, 9);
        is("1/2 3/2", pays, y -> y.prices(1, false));
        pays.pays(0, 2, 3, 2);
        is("1/2 3/2", pays, y -> y.prices(1, false));
        pays.pays(0, 2, 4, 3);
        is("1/6 1/2", pays, y -> y.prices(1, false));
        is("4/3", pays, y -> y.price(1, 2, 5));
        pays.pays(0, 2, 0, 9);
        is("0", pays, y -> y.price(1, 2, 5));

        says("1: PRICE: FULL less PAID; at the first NODE START.");
        Treeward share = oneStep();
        share.pays(0, 1, 2, 5);
        is("10", share, y -> y.price(0, 0, 0));
        is("3 9", share, y -> y.prices(1, false));
        is("2", share, y -> y.price(1, 0, 5));
        is("0", share, y -> y.price(0, 0, 5));
        Treeward shares = twoSteps();
        shares.pays(0, 1, 1, 2);
        shares.pays(1, 1, 1, 2);
        is("5/8 15/8 45/8", shares, y -> y.prices(2, false));

        says("1: The OTHER PRICE likewise, without PAID.");
        share.beside(0, 3, 1, 1, 4);
        is("5/2", share, y -> y.price(1, 0, 4));
        is("30", share, y -> y.price(1, 2, 4));
        is("10", share, y -> y.price(0, 0, 4));
    }

    private static void terms1OfPrices() {
        says("1: MEAN, GREATEST, LEAST: of all PRICES from the first NODE to this one.");
        Treeward x = fourSteps();
        int[][] node = {{0, 0}, {1, 0}, {1, 2}, {2, 0}, {2, 6}, {3, 2}, {4, 0}, {4, 80}};
        String[][] due = {{"10", "10", "10"}, {"15/2", "10", "5"}, {"25/2", "15", "10"}, {"35/6", "10", "5/2"},
            {"65/6", "15", "15/2"}, {"85/16", "10", "5/2"}, {"31/8", "10", "5/8"}, {"211/8", "405/8", "10"}};
        for (int n = 0; n < node.length; n++) {
            int[] at = node[n];
            for (int k = 0; k < 3; k++) {
                int what = k + 1;
                is(due[n][k], x, y -> y.price(at[0], at[1], what));
            }
        }
        Treeward paid = oneStep();
        paid.pays(0, 2, 6, 1);
        is("10", paid, y -> y.price(1, 2, 2));
        is("9", paid, y -> y.price(1, 2, 3));
        is("19/2", paid, y -> y.price(1, 2, 1));

        says("1: A STEP has a SURE WIN, if INTEREST is not above DOWN (\"+\").");
        Treeward sure = twoSteps();
        int[][] rates = {{4, 9}, {1, 2}, {4, 8}, {5, 9}, {1, 1}, {7, 5}, {3, 2}, {9, 6}, {8, 5}};
        String trades = "+++...---";
        for (int n = 0; n < 6; n++) {
            sure.rate(1, rates[n][0], rates[n][1]);
            is(trades.charAt(n), sure, y -> y.sure(1));
            is(trades.charAt(n) == '.' ? -1 : 1, sure, y -> y.house(8));
        }

        says("1: A STEP has a SURE WIN, if INTEREST is not below UP (\"-\").");
        for (int n = 3; n < rates.length; n++) {
            sure.rate(1, rates[n][0], rates[n][1]);
            is(trades.charAt(n), sure, y -> y.sure(1));
            is(trades.charAt(n) == '.' ? -1 : 1, sure, y -> y.house(8));
        }

        says("1: WEIGHT of UP (INTEREST - DOWN) / (UP - DOWN), of DOWN 1 less that.");
        Treeward weight = new Treeward();
        weight.step(9, 1, 1, 9, 1, 8);
        is("1/640", weight, y -> y.weight(0, 2));
        is("639/640", weight, y -> y.weight(0, 0));
        weight.rate(0, 8, 1);
        is("71/80", weight, y -> y.weight(0, 2));
        is("9/80", weight, y -> y.weight(0, 0));
    }

    // ---- 2. claims

    private static void terms2() {
        says("2: The SLIP is a row of at most 7 SIGNS.");
        Treeward x = fullSlip();
        is(STATE, x, y -> y.type(0));
        is(7, x, Treeward::wipe);

        says("2: 0 to 9 those numbers.");
        for (int n = 0; n <= 9; n++) {
            row(String.valueOf(n), String.valueOf(n));
        }

        says("2: 15 to 19 take the two uppermost ones off (the lower one is the first of both).");
        row("7", "92-");
        row("-7", "29-");
        row("6", "842--");
        row("2", "84-2-");
        row("11", "92+");
        row("18", "92*");

        says("2: 18 \"v\" (the greater), 19 \"w\" (the smaller).");
        row("9", "29v");
        row("9", "92v");
        row("9", "99v");
        row("2", "29w");
        row("2", "92w");
        row("2", "22w");
        row("-1", "01-5w");
        row("0", "01-0v");

        says("2: 20 \"p\" (itself, but 0 if it is below 0).");
        row("0", "89-p");
        row("0", "99-p");
        row("1", "98-p");
        row("1", "89-p1+");
        row("3", "3p");

        says("2: FAULT: the place of the first SIGN that finds too few there.");
        String[] few = {"+", "p", "1+", "1p+", "12+3+p+", "12++", "+1", "1++", "pp", "12-w"};
        int[] place = {0, 0, 1, 2, 6, 3, 0, 1, 0, 3};
        for (int n = 0; n < few.length; n++) {
            write(x, few[n]);
            is(place[n], x, Treeward::fault);
        }

        says("2: FAULT: how many SIGNS there are, if not just one lies there at the end.");
        String[] many = {"", "12", "1234567", "12+3", "1p2p", "ss+s"};
        for (int n = 0; n < many.length; n++) {
            write(x, many[n]);
            is(many[n].length(), x, Treeward::fault);
        }

        says("2: FAULT: NONE otherwise.");
        for (String fine : new String[] {"1", "1p", "12+", "12+p", "1234+++", "ss*s*s*", "1pppppp"}) {
            write(x, fine);
            is(-1, x, Treeward::fault);
        }

        says("2: CLAIMS: at most 4, numbered from 0.");
        Treeward four = oneStep();
        for (int n = 0; n < 4; n++) {
            alike(n, claim(four, String.valueOf(n), 1, false));
        }
        is(STATE, four, y -> y.claim(1, false));
        is("0", four, y -> y.told(0));
        is("3", four, y -> y.told(3));
        is(INDEX, four, y -> y.told(4));
    }

    private static Treeward sevens() {
        Treeward x = twoSteps();
        claim(x, "7", 2, false);
        return x;
    }

    /** Due at the first node, DOWN, UP, DOWN DOWN, DOWN UP, UP DOWN, UP UP. */
    private static String dues(Treeward x) {
        return x.due(0, 0, 0) + " " + x.due(0, 1, 0) + x.due(0, 1, 2) + " " + x.due(0, 2, 0) + x.due(0, 2, 2)
                + x.due(0, 2, 6) + x.due(0, 2, 8);
    }

    private static void walls() {
        says("2: a WALL (0 none, as at first).");
        Treeward x = sevens();
        is(0, x, y -> y.ofClaim(0, 2));
        is("7 77 7777", x, EdgeTests::dues);

        says("2: A WALL is TOUCHED at a NODE, if some PRICE from the first NODE to it is LEVEL or more (1, 2).");
        x.wall(0, 1, 10, 1);
        is("7 77 7777", x, EdgeTests::dues);
        x.wall(0, 2, 10, 1);
        is("0 00 0000", x, EdgeTests::dues);
        x.wall(0, 1, 91, 9);
        is("0 07 0077", x, EdgeTests::dues);
        x.wall(0, 2, 91, 9);
        is("7 70 7700", x, EdgeTests::dues);
        x.wall(0, 1, 30, 2);
        is("0 07 0077", x, EdgeTests::dues);
        x.wall(0, 1, 45, 2);
        is("0 00 0007", x, EdgeTests::dues);
        x.wall(0, 2, 45, 2);
        is("7 77 7770", x, EdgeTests::dues);
        x.wall(0, 1, 46, 2);
        is("0 00 0000", x, EdgeTests::dues);
        x.wall(0, 2, 46, 2);
        is("7 77 7777", x, EdgeTests::dues);

        says("2: A WALL is TOUCHED at a NODE, if some PRICE from the first NODE to it is LEVEL or less (3, 4).");
        x.wall(0, 3, 10, 1);
        is("7 77 7777", x, EdgeTests::dues);
        x.wall(0, 4, 10, 1);
        is("0 00 0000", x, EdgeTests::dues);
        x.wall(0, 3, 89, 9);
        is("0 70 7770", x, EdgeTests::dues);
        x.wall(0, 4, 89, 9);
        is("7 07 0007", x, EdgeTests::dues);
        x.wall(0, 3, 15, 2);
        is("0 70 7770", x, EdgeTests::dues);
        x.wall(0, 3, 14, 2);
        is("0 70 7700", x, EdgeTests::dues);
        x.wall(0, 3, 5, 2);
        is("0 00 7000", x, EdgeTests::dues);
        x.wall(0, 4, 5, 2);
        is("7 77 0777", x, EdgeTests::dues);
        x.wall(0, 3, 7, 3);
        is("0 00 0000", x, EdgeTests::dues);

        says("2: but 0, if the WALL wakes and is not TOUCHED, or ends and is.");
        Treeward below = twoSteps();
        claim(below, "07-", 2, false);
        below.wall(0, 1, 99, 1);
        is("0", below, y -> y.due(0, 2, 8));
        is("0", below, y -> y.worth(0, 0, 0, true));
        below.wall(0, 2, 1, 9);
        is("0", below, y -> y.worth(0, 0, 0, false));
        below.wall(0, 2, 99, 1);
        is("-7", below, y -> y.worth(0, 0, 0, false));
        below.wall(0, 0, 1, 9);
        is("-7", below, y -> y.due(0, 2, 0));
    }

    private static void worths() {
        says("2: HIGH and LOW: at the END DUE.");
        Treeward x = oneStep();
        claim(x, "9s-p", 1, false);
        claim(x, "9s-", 1, true);
        is("4", x, y -> y.worth(0, 1, 0, true));
        is("4", x, y -> y.worth(0, 1, 0, false));
        is("-6", x, y -> y.worth(1, 1, 2, true));
        is("-6", x, y -> y.worth(1, 1, 2, false));

        says("2: for two WAYS with the FACTOR of i not above INTEREST, and that of j not below it.");
        Treeward three = threeWays();
        claim(three, "9s-p", 1, false);
        int[][] rates = {{8, 9}, {1, 1}, {9, 8}};
        String[] high = {"11/4", "2", "4/3"};
        String[] low = {"1", "0", "0"};
        for (int n = 0; n < 3; n++) {
            three.rate(0, rates[n][0], rates[n][1]);
            is(high[n], three, y -> y.worth(0, 0, 0, true));
            is(low[n], three, y -> y.worth(0, 0, 0, false));
        }

        says("2: GO ON: of several that with the smaller i, then the smaller j.");
        three.rate(0, 1, 1);
        is("-4/5", three, y -> y.holding(0, 0, 0, false, 0));
        is("8", three, y -> y.holding(0, 0, 0, false, 1));
        is("0", three, y -> y.holding(0, 0, 0, false, 2));
        claim(three, "s9w", 1, false);
        is("4/5", three, y -> y.holding(1, 0, 0, true, 0));
        is("1", three, y -> y.holding(1, 0, 0, true, 1));

        says("2: HIGH (LOW) is GO ON, or, if it MAY STOP and that is more, DUE.");
        Treeward stop = threeWays();
        claim(stop, "s9-p", 1, true);
        claim(stop, "s9-p", 1, false);
        claim(stop, "s7-p", 1, true);
        is("3", stop, y -> y.worth(0, 0, 0, true));
        is("1", stop, y -> y.worth(0, 0, 0, false));
        is("1", stop, y -> y.worth(1, 0, 0, false));
        stop.rate(0, 8, 9);
        is("21/8", stop, y -> y.worth(0, 0, 0, true));
        is("1", stop, y -> y.worth(0, 0, 0, false));
        is("7/8", stop, y -> y.worth(1, 0, 0, false));
        stop.rate(0, 6, 9);
        is("3", stop, y -> y.worth(2, 0, 0, false));
        is("3", stop, y -> y.worth(2, 0, 0, true));
        is("2", stop, y -> y.holding(2, 0, 0, true, 2));
    }

    private static void holdingsAndStops() {
        says("2: HOLDING at a NODE ahead of the END, with the i and j of GO ON.");
        Treeward x = twoSteps();
        x.pays(0, 1, 1, 5);
        x.rate(1, 9, 8);
        claim(x, "s9-p", 2, false);
        is("3/4", x, y -> y.holding(0, 1, 2, true, 0));
        is("-4", x, y -> y.holding(0, 1, 2, false, 1));
        is("5", x, y -> y.holding(0, 1, 2, true, 2));
        is("5", x, y -> y.worth(0, 1, 2, true));
        is("0", x, y -> y.holding(0, 1, 0, true, 0));
        is("1/2", x, y -> y.holding(0, 0, 0, true, 0));
        is("-5/2", x, y -> y.holding(0, 0, 0, true, 1));
        is("5/2", x, y -> y.holding(0, 0, 0, false, 2));
        fails(INDEX, SEVENS, y -> y.holding(0, 2, 0, true, 0));

        says("2: One STOPS at a NODE ahead of the END, if the CLAIM MAY STOP, and DUE is GO ON of LOW or more.");
        Treeward stop = threeWays();
        claim(stop, "9s-", 1, true);
        claim(stop, "9s-", 1, false);
        claim(stop, "s9-p", 1, true);
        is(true, stop, y -> y.stops(0, 0, 0));
        is(false, stop, y -> y.stops(1, 0, 0));
        is(true, stop, y -> y.stops(2, 0, 0));
        stop.rate(0, 8, 9);
        is(false, stop, y -> y.stops(0, 0, 0));
        is(true, stop, y -> y.stops(2, 0, 0));
        stop.rate(0, 9, 8);
        is(true, stop, y -> y.stops(0, 0, 0));
        is(false, stop, y -> y.stops(2, 0, 0));

        says("2: All that is asked of HIGH, LOW, HOLDINGS and STOPS is refused, if one of the STEPS ahead of the "
                + "CLAIM's END has a SURE WIN.");
        Treeward sure = fourSteps();
        for (int end = 1; end <= 4; end++) {
            claim(sure, "s", end, true);
        }
        for (int step = 3; step >= 0; step--) {
            sure.rate(step, 3, 2);
            for (int n = 0; n < 4; n++) {
                int claim = n;
                boolean isRefused = n >= step;
                is(isRefused ? 1 : 0, sure, y -> y.ofClaim(claim, 5));
                is(isRefused ? STATE : "10", sure, y -> y.worth(claim, 0, 0, true));
                is(isRefused ? STATE : "10", sure, y -> y.worth(claim, 0, 0, false));
                is(isRefused ? STATE : "1", sure, y -> y.holding(claim, 0, 0, true, 0));
                is(isRefused ? STATE : "true", sure, y -> y.stops(claim, 0, 0));
                is(isRefused ? STATE : "0:0", sure, y -> y.best(claim));
                is(isRefused ? STATE : "0", sure, y -> y.span(claim));
                is(isRefused ? STATE : claim + 1, sure, y -> y.sell(claim));
                is("10", sure, y -> y.due(claim, 0, 0));
            }
        }
    }

    // ---- 3. book, quotes, play

    private static void terms3() {
        says("3: The BOOK has a number (0 at first) of each CLAIM.");
        Treeward x = threeWays();
        claim(x, "9s-p", 1, false);
        is(0, x, y -> y.ofClaim(0, 3));
        is("0", x, y -> y.worthOf(10, 1, false));

        says("3: number times HIGH (with a number below 0: LOW).");
        x.book(0, 3);
        is("6", x, y -> y.worthOf(10, 1, false));
        x.book(0, -3);
        is("0", x, y -> y.worthOf(10, 1, false));
        is("-15/2", x, y -> y.worthOf(13, 2, false));
        x.book(0, 1);
        is("23/8", x, y -> y.worthOf(13, 2, false));

        says("3: QUOTES: told prices of CLAIMS, none at first.");
        is(0, x, y -> y.house(2));
        is(0, x, y -> y.ofClaim(0, 4));
        is(".", x, Treeward::trade);

        says("3: one has its HIGH as money, and buys the pieces of the HIGH HOLDING.");
        x.sell(0);
        played(x, "6", "-2/5", "10", "0", "0");

        says("3: at the END, all pieces are sold and DUE is paid: the PLAY is over.");
        String[] left = {"0", "2", "0"};
        String[] price = {"5", "10", "15"};
        for (int n = 0; n < 3; n++) {
            int way = n;
            x.sell(0);
            is(1, x, y -> y.day(way));
            is(2, x, y -> y.house(3));
            played(x, left[n], "0", price[n], left[n], "0");
        }

        says("3: money becomes INTEREST times as much, and what is PAID on all pieces comes to it.");
        Treeward paid = threeWays();
        paid.pays(0, 1, 1, 2);
        claim(paid, "9s-p", 1, false);
        paid.sell(0);
        played(paid, "9", "-1/2", "10", "0", "0");
        paid.day(0);
        played(paid, "0", "0", "5/2", "0", "0");
        Treeward both = twoSteps();
        both.rate(0, 5, 4);
        both.pays(0, 2, 5, 1);
        claim(both, "s", 2, false);
        both.sell(0);
        played(both, "2", "1/2", "10", "0", "0");
        both.day(2);
        played(both, "0", "1", "10", "0", "0");
        both.sell(0);
        both.day(0);
        played(both, "0", "1", "5", "0", "0");
        Treeward lower = twoSteps();
        lower.rate(0, 5, 4);
        lower.pays(0, 2, 4, 1);
        claim(lower, "s", 2, false);
        lower.sell(0);
        played(lower, "-16/5", "1", "10", "0", "0");
        lower.day(0);
        played(lower, "0", "1", "1", "0", "0");
    }

    private static void played(Treeward x, String... due) {
        for (int n = 0; n < due.length; n++) {
            int what = n;
            is(due[n], x, y -> y.played(what));
        }
    }

    private static void fees() {
        says("3: FEE (0 at first).");
        Treeward x = oneStep();
        is(0, x, y -> y.fee(0, 1));
        claim(x, "9s-p", 1, false);
        x.sell(0);
        is("0", x, y -> y.played(4));

        says("3: FEE: of the change of pieces, whichever way, times PRICE: never below 0.");
        Treeward sold = threeWays();
        claim(sold, "9s-p", 1, false);
        sold.fee(1, 2);
        sold.sell(0);
        played(sold, "4", "-2/5", "10", "-2", "2");
        Treeward less = twoSteps();
        claim(less, "s9-p", 2, false);
        less.fee(1, 9);
        less.sell(0);
        played(less, "-33/8", "27/40", "10", "-3/4", "3/4");
        less.day(0);
        played(less, "-9/8", "0", "5", "-9/8", "9/8");

        says("3: FEE: also of the first pieces, but not as it is over.");
        sold.day(1);
        played(sold, "0", "0", "10", "0", "2");
        less.day(0);
        played(less, "-9/8", "0", "5/2", "-9/8", "9/8");

        says("3: FEE: of what is bought or sold (nothing, if the pieces stay as many).");
        Treeward same = twoSteps();
        claim(same, "s", 2, true);
        claim(same, "9", 2, false);
        same.fee(1, 2);
        same.sell(0);
        played(same, "-5", "1", "10", "-5", "5");
        same.day(2);
        played(same, "-5", "1", "15", "-5", "5");
        same.sell(1);
        played(same, "9", "0", "10", "0", "0");

        says("3: SPARE: money less that of the HIGH HOLDING (as it is over: money).");
        Treeward three = threeWays();
        three.step(3, 2, 1, 2, 1, 1);
        claim(three, "9s-p", 2, false);
        three.sell(0);
        played(three, "45/8", "-13/40", "10", "0", "0");
        three.day(1);
        played(three, "51/8", "-2/5", "10", "3/8", "0");
        three.day(0);
        played(three, "3/8", "0", "5", "3/8", "0");
    }

    // ---- 4. steps back

    private static final Ask[] CHANGES = {x -> x.start(false, 25, 2), x -> x.start(true, 7, 3),
        x -> x.step(2, 1, 1, 2, 1, 1), x -> x.middle(0, 1, 1), x -> x.rate(0, 1, 1), x -> x.pays(1, 1, 1, 9),
        x -> x.beside(1, 2, 1, 1, 3), x -> x.claim(1, false), x -> x.wall(1, 2, 99, 1), Treeward::drop,
        x -> x.book(0, 3), x -> x.quote(0, 1, 2), x -> x.fee(1, 9), x -> x.sell(0), x -> x.day(0), Treeward::stop};

    private static void terms4() {
        says("4: Each call of these groups that throws nothing and is not REFUSED is a CHANGE (also if all is alike "
                + "then).");
        for (Ask change : CHANGES) {
            Treeward x = busy();
            x.undo();
            is(7, x, y -> y.house(5));
            change.of(x);
            is(8, x, y -> y.house(5));
            is(7, x, Treeward::undo);
        }
        Treeward unstep = oneStep();
        unstep.unstep();
        is(2, unstep, y -> y.house(5));
        is(1, unstep, Treeward::undo);
        is(1, unstep, y -> y.house(0));

        says("4: a call that throws or is REFUSED is no CHANGE.");
        Treeward none = twoSteps();
        is(-9, none, y -> y.claim(1, false));
        is(ARGUMENT, none, y -> y.start(false, 0, 1));
        is(INDEX, none, y -> y.book(0, 1));
        is(STATE, none, Treeward::drop);
        is(2, none, y -> y.house(5));

        says("4: the SLIP, knocking, undoing and asking are no CHANGES.");
        write(none, "ss");
        none.knock();
        none.digest();
        is(2, none, y -> y.house(5));
        is(1, none, Treeward::undo);
        is(1, none, y -> y.house(5));

        says("4: the last 8 can be undone.");
        Treeward eight = new Treeward();
        for (int n = 1; n <= 8; n++) {
            eight.start(false, n, 1);
        }
        is(8, eight, y -> y.house(5));
        eight.start(false, 9, 1);
        is(8, eight, y -> y.house(5));
        for (int n = 8; n >= 1; n--) {
            int start = n;
            is(n - 1, eight, Treeward::undo);
            is(start, eight, y -> y.price(0, 0, 0));
        }
        is(STATE, eight, Treeward::undo);
        is("1", eight, y -> y.price(0, 0, 0));
    }

    private static void terms4OfUndoing() {
        says("4: undone: all is as it was.");
        Ask[] others = {x -> x.start(false, 1, 9), x -> x.start(true, 1, 9), x -> x.middle(0, 9, 8),
            x -> x.rate(1, 1, 9), x -> x.pays(1, 2, 9, 2), x -> x.beside(0, 9, 1, 1, 9), x -> x.wall(1, 1, 1, 9),
            x -> x.wall(0, 3, 99, 9), x -> x.book(1, 9), x -> x.quote(0, 99, 9), x -> x.quote(0, 1, 0),
            x -> x.fee(0, 1), x -> x.sell(1), x -> x.day(2), x -> x.step(9, 1, 1, 9, 1, 1)};
        for (Maker maker : new Maker[] {BUSY, BUSY_FULL, EdgeTests::busyAndFar}) {
            for (int n = 0; n < CHANGES.length + others.length; n++) {
                Treeward x = maker.make();
                x.digest();
                String got = answer(x, n < CHANGES.length ? CHANGES[n] : others[n - CHANGES.length]);
                if (got.endsWith("Exception")) {
                    continue;
                }
                x.digest();
                x.undo();
                x.fee(1, 9);
                Treeward same = maker.make();
                same.fee(1, 9);
                alike(wideTrail(same), wideTrail(x));
            }
        }
        Treeward dropped = busy();
        dropped.drop();
        dropped.drop();
        claim(dropped, "ss*", 1, false);
        claim(dropped, "8", 1, true);
        for (int n = 0; n < 4; n++) {
            dropped.undo();
        }
        is("9s-p", dropped, y -> y.told(0));
        is("t", dropped, y -> y.told(1));
        is(2, dropped, y -> y.ofClaim(0, 0));
        is(1, dropped, y -> y.ofClaim(0, 1));
        is(0, dropped, y -> y.ofClaim(1, 1));
        is(2, dropped, y -> y.ofClaim(1, 2));
        is(4, dropped, y -> y.ofClaim(0, 6));
        is(1, dropped, y -> y.ofClaim(0, 4));
        is(3, dropped, y -> y.ofClaim(0, 3));
        is("7/3", dropped, y -> y.due(1, 1, 2));

        says("4: all but the SLIP and what is counted in house() 6 and 7 is as it was.");
        Treeward kept = twoSteps();
        kept.start(false, 1, 1);
        kept.type(10);
        kept.type(10);
        kept.claim(1, false);
        kept.knock();
        kept.undo();
        is(2, kept, Treeward::fault);
        is(1, kept, y -> y.house(6));
        is(1, kept, y -> y.house(7));
        is(3, kept, y -> y.type(15));
        is("10", kept, y -> y.price(0, 0, 0));

        says("4: As the tree or a CLAIM is changed (calls of the first two groups), a PLAY, over or not, is gone.");
        for (int n = 0; n < 10; n++) {
            for (int over = 0; over < 2; over++) {
                Treeward x = busy();
                if (over == 1) {
                    x.stop();
                }
                is(1 + over, x, y -> y.house(3));
                CHANGES[n].of(x);
                is(0, x, y -> y.house(3));
                is(".", x, y -> y.played(0));
                is(STATE, x, y -> y.day(0));
                x.undo();
                is(1 + over, x, y -> y.house(3));
            }
        }
        Treeward gone = fourSteps();
        claim(gone, "s", 1, false);
        gone.sell(0);
        gone.unstep();
        is(0, gone, y -> y.house(3));

        says("4: calls of the third group leave the PLAY.");
        Treeward stays = busy();
        String money = stays.played(0);
        stays.book(0, 0);
        stays.quote(0, 99, 9);
        stays.fee(0, 1);
        is(1, stays, y -> y.house(3));
        is(money, stays, y -> y.played(0));
    }

    /** A trail, and what a play comes to from there. */
    private static String wideTrail(Treeward x) {
        StringBuilder text = new StringBuilder();
        for (int n = 0; n < 9; n++) {
            text.append(x.house(n)).append(' ');
        }
        for (int n = 0; n < 5; n++) {
            text.append(x.played(n)).append(' ');
        }
        if (x.house(3) == 1) {
            text.append(answer(x, y -> y.stop())).append(x.played(0)).append(x.played(2));
            x.undo();
            text.append(answer(x, y -> y.day(2))).append(x.played(0)).append(x.played(4));
            x.undo();
        }
        return text + trail(x);
    }

    private static final Ask[] QUESTIONS = {x -> x.price(1, 0, 4), x -> x.nodes(2), x -> x.prices(2, true),
        x -> x.sure(1), x -> x.weight(1, 2), Treeward::unfair, x -> x.ofStep(0, 5), x -> x.due(1, 1, 2),
        x -> x.worth(0, 0, 0, true), x -> x.holding(0, 1, 0, false, 2), x -> x.stops(0, 1, 0), x -> x.best(0),
        x -> x.span(0), x -> x.implied(0, 9, 2), x -> x.law(1, 1), x -> x.worthOf(8, 1, true), x -> x.least(1),
        Treeward::trade, x -> x.played(3), x -> x.ofClaim(1, 2), x -> x.told(0), Treeward::fault,
        x -> x.house(3), Treeward::isSound, Treeward::digest, Treeward::stop, x -> x.day(2), x -> x.sell(0)};

    /** What a call answers does not hang on what was asked, or not asked, ahead of it. */
    private static void askedFirst() {
        says("Not promised: Nothing is promised beyond the answers described (asking changes none of them).");
        for (Ask change : CHANGES) {
            for (Ask question : QUESTIONS) {
                Treeward asked = busy();
                asked.digest();
                change.of(asked);
                Treeward silent = busy();
                change.of(silent);
                alike(answer(silent, question), answer(asked, question));
                alike(answer(silent, Treeward::digest), answer(asked, Treeward::digest));
            }
        }
        Treeward stop = twoSteps();
        claim(stop, "9s-p", 2, true);
        stop.sell(0);
        is(0, stop, Treeward::stop);
        stop.start(false, 1, 1);
        stop.sell(0);
        stop.day(0);
        is(1, stop, Treeward::stop);
        stop.start(false, 2, 1);
        stop.quote(0, 9, 1);
        is("0- 2", stop, Treeward::trade);
        stop.start(false, 3, 1);
        is("0- 3", stop, Treeward::trade);
    }

    // ---- promises 1 to 8

    private static void tree() {
        says("Promise 1: Creates a desk without steps.");
        is(0, new Treeward(), x -> x.house(0));
        is(1, new Treeward(), x -> x.nodes(0));
        is(INDEX, new Treeward(), x -> x.nodes(1));
        is(0, new Treeward(), x -> x.step(2, 1, 1, 2, 1, 1));

        says("Promise 2: Returns 1 if that START was another one, otherwise 0.");
        Treeward x = new Treeward();
        is(0, x, y -> y.start(false, 20, 2));
        is(0, x, y -> y.start(true, 90, 9));
        is(1, x, y -> y.start(false, 89, 9));
        is(0, x, y -> y.start(true, 10, 1));
        is(1, x, y -> y.start(true, 91, 9));
        is(0, x, y -> y.start(false, 89, 9));

        says("Promise 2: a is not 1 to 99.");
        bounds(ARGUMENT, 1, 99, BUSY, (y, v) -> y.start(false, v, 1));
        bounds(ARGUMENT, 1, 99, BUSY, (y, v) -> y.start(true, v, 1));

        says("Promise 2: or b not 1 to 9.");
        bounds(ARGUMENT, 1, 9, BUSY, (y, v) -> y.start(false, 5, v));
        bounds(ARGUMENT, 1, 9, BUSY, (y, v) -> y.start(true, 5, v));

        says("Promise 3: if one is not 1 to 9.");
        bounds(ARGUMENT, 1, 9, BUSY, (y, v) -> y.step(v, 1, 1, 9, 1, 1));
        bounds(ARGUMENT, 1, 9, BUSY, (y, v) -> y.step(9, v, 1, 9, 1, 1));
        bounds(ARGUMENT, 1, 9, BUSY, (y, v) -> y.step(9, 1, v, 2, 1, 1));
        bounds(ARGUMENT, 1, 9, BUSY, (y, v) -> y.step(9, 1, 1, v, 1, 1));
        bounds(ARGUMENT, 1, 9, BUSY, (y, v) -> y.step(2, 1, 1, 2, v, 1));
        bounds(ARGUMENT, 1, 9, BUSY, (y, v) -> y.step(2, 1, 1, 2, 1, v));

        says("Promise 3: or UP is not above DOWN.");
        fails(ARGUMENT, BUSY, y -> y.step(1, 2, 4, 8, 1, 1));
        fails(ARGUMENT, BUSY, y -> y.step(7, 8, 8, 9, 1, 1));
        fails(ARGUMENT, BUSY, y -> y.step(1, 9, 9, 1, 1, 1));
        is(0, new Treeward(), y -> y.step(8, 9, 7, 8, 1, 1));
        is(0, new Treeward(), y -> y.step(9, 1, 1, 9, 1, 9));

        says("Promise 3: IllegalState if there are 4.");
        Treeward four = fourSteps();
        four.unstep();
        is(3, four, y -> y.step(2, 1, 1, 2, 1, 1));
        fails(STATE, FOUR, y -> y.step(2, 1, 1, 2, 1, 1));
    }

    private static void treeChanged() {
        says("Promise 4: Returns how many NODES there are with all STEPS behind them.");
        Treeward x = fourSteps();
        int[] many = {24, 36, 54, 81};
        for (int n = 0; n < 4; n++) {
            int step = n;
            is(many[n], x, y -> y.middle(step, 1, 1));
        }
        is(81, x, y -> y.middle(2, 8, 9));

        says("Promise 4: if there is no such STEP.");
        bounds(INDEX, 0, 1, BUSY, (y, v) -> y.middle(v, 1, 1));
        fails(INDEX, NEW, y -> y.middle(0, 1, 1));

        says("Promise 4: if a or b is not 1 to 9.");
        bounds(ARGUMENT, 1, 9, WIDE, (y, v) -> y.middle(0, v, 2));
        bounds(ARGUMENT, 1, 9, WIDE, (y, v) -> y.middle(0, 8, v));

        says("Promise 4: or it is not between DOWN and UP.");
        fails(ARGUMENT, BUSY, y -> y.middle(0, 2, 4));
        fails(ARGUMENT, BUSY, y -> y.middle(0, 6, 4));
        fails(ARGUMENT, BUSY, y -> y.middle(0, 4, 9));
        fails(ARGUMENT, BUSY, y -> y.middle(0, 8, 5));
        is(3, oneStep(), y -> y.middle(0, 5, 9));
        is(3, oneStep(), y -> y.middle(0, 7, 5));

        says("Promise 5: Returns 1 if it has a SURE WIN then, otherwise 0.");
        int[][] rates = {{1, 9}, {1, 2}, {5, 9}, {7, 5}, {3, 2}, {9, 1}};
        int[] due = {1, 1, 0, 0, 1, 1};
        for (int n = 0; n < 6; n++) {
            int[] rate = rates[n];
            is(due[n], twoSteps(), y -> y.rate(1, rate[0], rate[1]));
        }

        says("Promise 5: if there is no such STEP.");
        bounds(INDEX, 0, 1, BUSY, (y, v) -> y.rate(v, 1, 1));

        says("Promise 5: if a or b is not 1 to 9.");
        bounds(ARGUMENT, 1, 9, BUSY, (y, v) -> y.rate(0, v, 1));
        bounds(ARGUMENT, 1, 9, BUSY, (y, v) -> y.rate(0, 1, v));
    }

    /** A step from 1/9 to 9. */
    private static Treeward wideStep() {
        Treeward x = new Treeward();
        x.step(9, 1, 1, 9, 1, 1);
        return x;
    }

    private static void treePaysAndBeside() {
        says("Promise 6: Returns kind before.");
        Treeward x = twoSteps();
        int[] kinds = {0, 2, 1, 1, 0, 0, 1, 2, 2, 0};
        for (int n = 1; n < kinds.length; n++) {
            int kind = kinds[n];
            is(kinds[n - 1], x, y -> y.pays(1, kind, 1, 2));
        }

        says("Promise 6: if there is no such STEP.");
        bounds(INDEX, 0, 1, BUSY, (y, v) -> y.pays(v, 1, 1, 2));

        says("Promise 6: if kind is not 0 to 2.");
        bounds(ARGUMENT, 0, 2, BUSY, (y, v) -> y.pays(0, v, 1, 2));

        says("Promise 6: a not 0 to 9.");
        bounds(ARGUMENT, 0, 9, BUSY, (y, v) -> y.pays(0, 2, v, 1));
        bounds(ARGUMENT, 0, 9, BUSY, (y, v) -> y.pays(0, 0, v, 1));
        bounds(ARGUMENT, 0, 4, BUSY, (y, v) -> y.pays(0, 1, v, 9));

        says("Promise 6: b not 1 to 9.");
        for (int kind = 0; kind < 3; kind++) {
            int paid = kind;
            bounds(ARGUMENT, 1, 9, BUSY, (y, v) -> y.pays(0, paid, 0, v));
        }

        says("Promise 6: or (kind 1) the share is above 1/2.");
        for (int b = 2; b <= 9; b++) {
            int below = b;
            is(0, oneStep(), y -> y.pays(0, 1, below / 2, below));
            fails(ARGUMENT, ONE, y -> y.pays(0, 1, below / 2 + 1, below));
        }
        fails(ARGUMENT, TWO, y -> y.pays(0, 1, 1, 1));
        is(0, oneStep(), y -> y.pays(0, 2, 9, 1));
        is(0, oneStep(), y -> y.pays(0, 0, 9, 1));

        says("Promise 7: Returns 1 if UP is above DOWN, -1 if it is below, 0 if both are alike.");
        int[][] sides = {{9, 8, 8, 7}, {8, 7, 9, 8}, {2, 6, 3, 9}, {9, 1, 1, 9}, {1, 9, 9, 1}};
        int[] due = {-1, 1, 0, 1, -1};
        for (int n = 0; n < sides.length; n++) {
            int[] side = sides[n];
            is(due[n], oneStep(), y -> y.beside(0, side[0], side[1], side[2], side[3]));
        }

        says("Promise 7: if there is no such STEP.");
        bounds(INDEX, 0, 1, BUSY, (y, v) -> y.beside(v, 1, 1, 1, 1));

        says("Promise 7: if one is not 1 to 9.");
        bounds(ARGUMENT, 1, 9, BUSY, (y, v) -> y.beside(0, v, 1, 1, 1));
        bounds(ARGUMENT, 1, 9, BUSY, (y, v) -> y.beside(0, 1, v, 1, 1));
        bounds(ARGUMENT, 1, 9, BUSY, (y, v) -> y.beside(0, 1, 1, v, 1));
        bounds(ARGUMENT, 1, 9, BUSY, (y, v) -> y.beside(0, 1, 1, 1, v));

        says("Promise 8: Returns how many are left.");
        Treeward four = fourSteps();
        for (int n = 3; n >= 0; n--) {
            is(n, four, Treeward::unstep);
        }

        says("Promise 8: if there is none.");
        fails(STATE, NEW, Treeward::unstep);
        is(STATE, four, Treeward::unstep);

        says("Promise 8: or a CLAIM has its END there.");
        Treeward ends = fourSteps();
        claim(ends, "s", 2, false);
        claim(ends, "s", 3, false);
        claim(ends, "s", 1, false);
        is(3, ends, Treeward::unstep);
        is(STATE, ends, Treeward::unstep);
        ends.drop();
        ends.drop();
        is(2, ends, Treeward::unstep);
        is(STATE, ends, Treeward::unstep);
        ends.drop();
        is(1, ends, Treeward::unstep);
        fails(STATE, SEVENS, Treeward::unstep);
    }

    // ---- promises 9 to 17

    private static void claims() {
        says("Promise 9: Returns its number; REFUSED if the SLIP has a FAULT.");
        Treeward x = twoSteps();
        is(-9, x, y -> y.claim(1, false));
        x.type(10);
        is(0, x, y -> y.claim(1, false));
        x.type(10);
        is(-9, x, y -> y.claim(1, false));
        x.type(15);
        is(1, x, y -> y.claim(2, true));
        is("ss+", x, y -> y.told(1));
        x.wipe();
        is(-9, x, y -> y.claim(2, true));
        is(2, x, y -> y.house(1));
        is(3, x, y -> y.house(6));

        says("Promise 9: if end is not 1 to how many STEPS there are.");
        bounds(ARGUMENT, 1, 2, BUSY, (y, v) -> y.claim(v, false));
        bounds(ARGUMENT, 1, 4, () -> typed(fourSteps()), (y, v) -> y.claim(v, true));
        fails(ARGUMENT, () -> typed(new Treeward()), y -> y.claim(1, false));
        fails(ARGUMENT, () -> typed(new Treeward()), y -> y.claim(0, false));

        says("Promise 9: if there are 4.");
        fails(STATE, BUSY_FULL, y -> y.claim(1, false));
        Treeward full = busyAndFull();
        write(full, "s");
        is(STATE, full, y -> y.claim(1, false));
        full.drop();
        is(3, full, y -> y.claim(1, false));

        says("Promise 10: Returns WALL before.");
        Treeward walls = sevens();
        int[] kinds = {0, 1, 2, 3, 4, 4, 0, 3, 0};
        for (int n = 1; n < kinds.length; n++) {
            int kind = kinds[n];
            is(kinds[n - 1], walls, y -> y.wall(0, kind, 1, 1));
        }

        says("Promise 10: if there is no such CLAIM.");
        bounds(INDEX, 0, 1, BUSY, (y, v) -> y.wall(v, 1, 1, 1));
        fails(INDEX, TWO, y -> y.wall(0, 0, 1, 1));

        says("Promise 10: if kind is not 0 to 4.");
        bounds(ARGUMENT, 0, 4, BUSY, (y, v) -> y.wall(0, v, 1, 1));

        says("Promise 10: a not 1 to 99.");
        bounds(ARGUMENT, 1, 99, BUSY, (y, v) -> y.wall(0, 1, v, 1));
        bounds(ARGUMENT, 1, 99, BUSY, (y, v) -> y.wall(0, 0, v, 1));

        says("Promise 10: or b not 1 to 9.");
        bounds(ARGUMENT, 1, 9, BUSY, (y, v) -> y.wall(0, 4, 1, v));
        bounds(ARGUMENT, 1, 9, BUSY, (y, v) -> y.wall(0, 0, 1, v));

        says("Promise 11: The last CLAIM goes, with its QUOTE and number in the BOOK. Returns how many are left.");
        Treeward drop = twoSteps();
        claim(drop, "s", 1, false);
        claim(drop, "a", 2, false);
        drop.book(1, 9);
        drop.quote(1, 1, 1);
        is(1, drop, Treeward::drop);
        is(0, drop, y -> y.house(2));
        is("0", drop, y -> y.worthOf(10, 1, false));
        claim(drop, "x", 2, true);
        is(0, drop, y -> y.ofClaim(1, 3));
        is(0, drop, y -> y.ofClaim(1, 4));
        is(1, drop, Treeward::drop);
        is(0, drop, Treeward::drop);

        says("Promise 11: if there is none.");
        is(STATE, drop, Treeward::drop);
        fails(STATE, TWO, Treeward::drop);
    }

    private static Treeward typed(Treeward x) {
        x.type(10);
        return x;
    }

    private static void book() {
        says("Promise 12: Returns that before.");
        Treeward x = sevens();
        int[] many = {0, 9, -9, -1, 1, 0};
        for (int n = 1; n < many.length; n++) {
            int next = many[n];
            is(many[n - 1], x, y -> y.book(0, next));
        }

        says("Promise 12: if there is no such CLAIM.");
        bounds(INDEX, 0, 1, BUSY, (y, v) -> y.book(v, 1));

        says("Promise 12: if many is not -9 to 9.");
        bounds(ARGUMENT, -9, 9, BUSY, (y, v) -> y.book(0, v));

        says("Promise 13: b below; 0: it has none from now on. Returns how many QUOTES there are.");
        Treeward quotes = twoSteps();
        claim(quotes, "s", 1, false);
        claim(quotes, "s", 1, false);
        is(0, quotes, y -> y.quote(0, 9, 0));
        is(1, quotes, y -> y.quote(0, 0, 1));
        is(1, quotes, y -> y.quote(0, -99, 9));
        is(2, quotes, y -> y.quote(1, 99, 9));
        is(1, quotes, y -> y.quote(0, -99, 0));
        is(0, quotes, y -> y.ofClaim(0, 4));
        is("1- 1", quotes, Treeward::trade);

        says("Promise 13: if there is no such CLAIM.");
        bounds(INDEX, 0, 1, BUSY, (y, v) -> y.quote(v, 1, 1));

        says("Promise 13: if a is not -99 to 99.");
        bounds(ARGUMENT, -99, 99, BUSY, (y, v) -> y.quote(0, v, 1));
        bounds(ARGUMENT, -99, 99, BUSY, (y, v) -> y.quote(0, v, 0));

        says("Promise 13: or b not 0 to 9.");
        bounds(ARGUMENT, 0, 9, BUSY, (y, v) -> y.quote(0, 1, v));

        says("Promise 14: Returns 1 if FEE was above 0, otherwise 0.");
        Treeward fee = new Treeward();
        is(0, fee, y -> y.fee(1, 99));
        is(1, fee, y -> y.fee(0, 99));
        is(0, fee, y -> y.fee(9, 18));
        is(1, fee, y -> y.fee(1, 2));

        says("Promise 14: if a is not 0 to 9.");
        bounds(ARGUMENT, 0, 9, BUSY, (y, v) -> y.fee(v, 99));

        says("Promise 14: b not 1 to 99.");
        bounds(ARGUMENT, 1, 99, BUSY, (y, v) -> y.fee(0, v));

        says("Promise 14: or FEE would be above 1/2.");
        for (int a = 1; a <= 9; a++) {
            int above = a;
            is(0, new Treeward(), y -> y.fee(above, 2 * above));
            fails(ARGUMENT, BUSY, y -> y.fee(above, 2 * above - 1));
        }
    }

    private static void play() {
        says("Promise 15: A PLAY begins (another one is gone). Returns its END.");
        Treeward x = twoSteps();
        claim(x, "9s-p", 2, true);
        claim(x, "s", 1, true);
        is(2, x, y -> y.sell(0));
        x.day(2);
        is(1, x, y -> y.sell(1));
        is(1, x, y -> y.house(3));
        is(0, x, y -> y.house(4));
        is("10", x, y -> y.played(2));
        x.day(2);
        is(2, x, y -> y.house(3));
        is(2, x, y -> y.sell(0));
        is(0, x, Treeward::stop);
        is(1, x, y -> y.sell(1));
        is(1, x, Treeward::stop);

        says("Promise 15: if there is no such CLAIM.");
        bounds(INDEX, 0, 1, BUSY, (y, v) -> y.sell(v));
        fails(INDEX, NEW, y -> y.sell(0));

        says("Promise 15: if it is refused for a SURE WIN.");
        fails(STATE, REFUSED, y -> y.sell(0));
        Treeward sure = refusedClaim();
        claim(sure, "s", 1, false);
        is(1, sure, y -> y.sell(1));

        says("Promise 16: Returns how many STEPS are behind the NODE then.");
        Treeward days = fourSteps();
        claim(days, "s", 4, false);
        days.sell(0);
        for (int n = 1; n <= 4; n++) {
            is(n, days, y -> y.day(2));
            is(n, days, y -> y.house(4));
            is(n < 4 ? 1 : 2, days, y -> y.house(3));
        }

        says("Promise 16: if way is not 0 to 2.");
        bounds(ARGUMENT, 0, 2, SOLD, (y, v) -> y.day(v));
        fails(ARGUMENT, NEW, y -> y.day(3));
        fails(ARGUMENT, NEW, y -> y.day(-1));
        fails(ARGUMENT, OVER, y -> y.day(3));

        says("Promise 16: or there is a PLAY that is not over, and the next STEP has no such WAY.");
        fails(ARGUMENT, BUSY, y -> y.day(1));
        is(1, soldThree(), y -> y.day(1));
        Treeward next = threeWays();
        next.step(3, 2, 1, 2, 1, 1);
        claim(next, "s", 2, false);
        next.sell(0);
        is(1, next, y -> y.day(1));
        is(ARGUMENT, next, y -> y.day(1));
        is(2, next, y -> y.day(0));

        says("Promise 16: if there is no PLAY that is not over.");
        for (int way = 0; way < 3; way++) {
            int gone = way;
            fails(STATE, NEW, y -> y.day(gone));
            fails(STATE, TWO, y -> y.day(gone));
            fails(STATE, OVER, y -> y.day(gone));
        }
    }

    private static Treeward soldThree() {
        Treeward x = threeWays();
        claim(x, "9s-p", 1, true);
        x.sell(0);
        return x;
    }

    private static Treeward overThree() {
        Treeward x = soldThree();
        x.day(1);
        return x;
    }

    private static void stopped() {
        says("Promise 17: DUE is paid, all pieces are sold (without a FEE): the PLAY is over.");
        Treeward x = twoSteps();
        claim(x, "9s-p", 2, true);
        x.sell(0);
        x.day(0);
        played(x, "9", "-1", "5", "0", "0");
        x.fee(1, 2);
        is(1, x, Treeward::stop);
        played(x, "0", "0", "5", "0", "0");
        is(2, x, y -> y.house(3));
        is(1, x, y -> y.house(4));

        says("Promise 17: Returns 1 if one STOPS there, otherwise 0.");
        Treeward three = soldThree();
        is(1, three, Treeward::stop);
        Treeward later = twoSteps();
        claim(later, "9s-p", 2, true);
        later.sell(0);
        is(0, later, Treeward::stop);
        later.sell(0);
        later.day(2);
        is(0, later, Treeward::stop);
        later.sell(0);
        later.day(0);
        is(1, later, Treeward::stop);
        later.sell(0);
        is(0, later, Treeward::stop);
        played(later, "19/8", "0", "10", "19/8", "0");

        says("Promise 17: if there is no PLAY that is not over.");
        fails(STATE, NEW, Treeward::stop);
        fails(STATE, OVER, Treeward::stop);
        is(STATE, later, Treeward::stop);

        says("Promise 17: or the CLAIM MAY not STOP.");
        fails(STATE, EdgeTests::soldSevens, Treeward::stop);
    }

    private static Treeward soldSevens() {
        Treeward x = sevens();
        x.sell(0);
        return x;
    }

    // ---- promises 18 to 21

    private static void slipAndSteps() {
        says("Promise 18: Returns how many stand there.");
        Treeward x = new Treeward();
        for (int n = 1; n <= 7; n++) {
            is(n, x, y -> y.type(10));
        }

        says("Promise 18: if sign is not 0 to 20.");
        bounds(ARGUMENT, 0, 20, BUSY, (y, v) -> y.type(v));

        says("Promise 18: if there are 7.");
        is(STATE, x, y -> y.type(10));
        fails(STATE, FULL_SLIP, y -> y.type(0));
        fails(STATE, FULL_SLIP, y -> y.type(20));

        says("Promise 19: The SLIP is empty then. Returns how many stood there.");
        is(7, x, Treeward::wipe);
        is(0, x, Treeward::wipe);
        is(0, x, Treeward::fault);
        is(1, x, y -> y.type(20));
        is(1, x, Treeward::wipe);

        says("Promise 20: Undoes a CHANGE (that is none). Returns how many can be undone still.");
        Treeward back = fourSteps();
        for (int n = 3; n >= 0; n--) {
            is(n, back, Treeward::undo);
            is(n, back, y -> y.house(0));
        }

        says("Promise 20: if none can be undone.");
        is(STATE, back, Treeward::undo);
        fails(STATE, NEW, Treeward::undo);

        says("Promise 21: Returns how often one knocked, with this.");
        Treeward knocked = busy();
        is(2, knocked, Treeward::knock);
        knocked.undo();
        is(3, knocked, Treeward::knock);
        is(1, new Treeward(), Treeward::knock);
    }

    // ---- promises 22 to 28

    private static void askedOfTree() {
        says("Promise 22: if there is no such NODE.");
        bounds(INDEX, 0, 2, BUSY, (x, v) -> x.price(v, 0, 0));
        bounds(INDEX, 0, 0, BUSY, (x, v) -> x.price(0, v, 0));
        bounds(INDEX, 0, 2, BUSY, (x, v) -> x.price(1, v, 0));
        bounds(INDEX, 0, 8, BUSY, (x, v) -> x.price(2, v, 0));
        is("25/2", busy(), x -> x.price(1, 1, 0));
        for (int code : new int[] {1, 4, 7}) {
            fails(INDEX, BUSY, x -> x.price(2, code, 0));
            fails(INDEX, TWO, x -> x.price(2, code, 0));
        }
        for (int code : new int[] {3, 4, 5}) {
            fails(INDEX, TWO, x -> x.price(2, code, 0));
        }
        is("15/2", threeThenTwo(), x -> x.price(2, 6, 0));
        is("5", threeThenTwo(), x -> x.price(2, 3, 0));
        is("15", threeThenTwo(), x -> x.price(2, 5, 0));

        bounds(INDEX, 0, 4, BUSY_FULL, (x, v) -> x.price(v, 0, 0));
        bounds(INDEX, 0, 26, FOUR, (x, v) -> x.price(3, v, 0));
        bounds(INDEX, 0, 80, FOUR, (x, v) -> x.price(4, v, 0));

        says("Promise 22: if what is not 0 to 5.");
        bounds(ARGUMENT, 0, 5, BUSY, (x, v) -> x.price(1, 0, v));
        bounds(ARGUMENT, 0, 5, NEW, (x, v) -> x.price(0, 0, v));

        says("Promise 22: 5 PAID behind the last STEP (0 at the first NODE).");
        Treeward paid = twoSteps();
        paid.pays(0, 1, 1, 2);
        is("0", paid, x -> x.price(0, 0, 5));
        is("5/2", paid, x -> x.price(1, 0, 5));
        is("0", paid, x -> x.price(2, 0, 5));

        says("Promise 23: Returns how many NODES there are.");
        int[] many = {1, 3, 6};
        for (int n = 0; n < 3; n++) {
            int step = n;
            is(many[n], threeThenTwo(), x -> x.nodes(step));
        }

        says("Promise 23: if there are fewer STEPS, or step is below 0.");
        bounds(INDEX, 0, 2, BUSY, (x, v) -> x.nodes(v));
        bounds(INDEX, 0, 0, NEW, (x, v) -> x.nodes(v));
        bounds(INDEX, 0, 4, BUSY_FULL, (x, v) -> x.nodes(v));

        says("Promise 24: all unlike PRICES, the smallest first, with \" \" between.");
        is("10", new Treeward(), x -> x.prices(0, false));
        is("5/2 15/2 45/2", twoSteps(), x -> x.prices(2, false));
        Treeward turned = oneStep();
        turned.step(3, 5, 1, 2, 4, 7);
        turned.pays(1, 2, 5, 2);
        is("1/2 5/2 5 13/2", turned, x -> x.prices(2, false));

        says("Promise 24: each (if told) with \"x\" and how many NODES have it behind it.");
        is("10x1", new Treeward(), x -> x.prices(0, true));
        is("5/2x1 5x1 15/2x2 15x1 45/2x1", threeThenTwo(), x -> x.prices(2, true));
        Treeward alike = oneStep();
        alike.pays(0, 2, 9, 1);
        alike.start(false, 9, 1);
        is("9/2x2", alike, x -> x.prices(1, true));
        is("9/2", alike, x -> x.prices(1, false));

        is(unlikePrices(), unlike(), x -> x.prices(4, true));

        says("Promise 24: if there are fewer STEPS, or step is below 0.");
        bounds(INDEX, 0, 2, BUSY, (x, v) -> x.prices(v, true));
        bounds(INDEX, 0, 0, NEW, (x, v) -> x.prices(v, false));
    }

    /** A step of three ways, then one of two: 10; 5 10 15; 5/2 15/2 5 15 15/2 45/2. */
    private static Treeward threeThenTwo() {
        Treeward x = threeWays();
        x.step(3, 2, 1, 2, 1, 1);
        return x;
    }

    /** Four steps of three ways, no two of whose 81 last prices are alike. */
    private static Treeward unlike() {
        Treeward x = new Treeward();
        x.step(4, 1, 1, 1, 2, 1);
        x.middle(0, 2, 1);
        x.step(9, 1, 1, 1, 2, 1);
        x.middle(1, 3, 1);
        x.step(5, 1, 1, 5, 2, 1);
        x.middle(2, 1, 1);
        x.step(7, 1, 1, 7, 2, 1);
        x.middle(3, 1, 1);
        return x;
    }

    /** What unlike() has behind four steps: 10 times 1, 2, 4 by 1, 3, 9 by 1/5, 1, 5 by 1/7, 1, 7. */
    private static String unlikePrices() {
        int[] twos = {1, 2, 4};
        int[] threes = {1, 3, 9};
        int[] fives = {1, 5, 25};
        int[] sevens = {1, 7, 49};
        int[] prices = new int[81];
        for (int n = 0; n < 81; n++) {
            prices[n] = 10 * twos[n / 27] * threes[n / 9 % 3] * fives[n / 3 % 3] * sevens[n % 3];
        }
        Arrays.sort(prices);
        StringBuilder text = new StringBuilder();
        for (int price : prices) {
            int top = price % 5 == 0 ? price / 5 : price;
            int low = price % 5 == 0 ? 7 : 35;
            boolean isWhole = top % 7 == 0;
            text.append(text.length() == 0 ? "" : " ").append(isWhole ? top / 7 : top);
            text.append(isWhole ? low == 7 ? "" : "/5" : "/" + low).append("x1");
        }
        return text.toString();
    }

    private static void askedOfSteps() {
        says("Promise 25: if there is no such STEP.");
        bounds(INDEX, 0, 1, BUSY, (x, v) -> x.sure(v));
        fails(INDEX, NEW, x -> x.sure(0));

        says("Promise 26: \".\" if it has a MIDDLE or a SURE WIN.");
        Treeward x = twoSteps();
        is("1/2", x, y -> y.weight(0, 2));
        x.middle(0, 1, 1);
        is(".", x, y -> y.weight(0, 2));
        is(".", x, y -> y.weight(0, 0));
        x.rate(1, 1, 2);
        is(".", x, y -> y.weight(1, 2));
        x.rate(1, 3, 2);
        is(".", x, y -> y.weight(1, 0));
        x.rate(1, 5, 9);
        is("1/18", x, y -> y.weight(1, 2));
        is("17/18", x, y -> y.weight(1, 0));

        says("Promise 26: if there is no such STEP.");
        bounds(INDEX, 0, 1, BUSY, (y, v) -> y.weight(v, 2));

        says("Promise 26: if way is not 0 or 2.");
        bounds(ARGUMENT, 0, 0, BUSY, (y, v) -> y.weight(1, v));
        bounds(ARGUMENT, 2, 2, BUSY, (y, v) -> y.weight(0, v));

        says("Promise 27: The first STEP of two WAYS, without a SURE WIN, at which the OTHER one is not worth its "
                + "price; NONE without.");
        is(-1, new Treeward(), Treeward::unfair);
        is(-1, twoSteps(), Treeward::unfair);
        Treeward unfair = twoSteps();
        unfair.beside(0, 9, 8, 7, 8);
        unfair.beside(1, 9, 8, 8, 9);
        is(1, unfair, Treeward::unfair);
        unfair.beside(0, 8, 7, 7, 8);
        is(0, unfair, Treeward::unfair);
        unfair.middle(0, 1, 1);
        is(1, unfair, Treeward::unfair);
        unfair.rate(1, 1, 2);
        is(-1, unfair, Treeward::unfair);
        unfair.rate(1, 3, 2);
        is(-1, unfair, Treeward::unfair);
        unfair.rate(1, 7, 5);
        is(1, unfair, Treeward::unfair);

        says("Promise 28: 1 MIDDLE (\".\" without).");
        is(".", oneStep(), y -> y.ofStep(0, 1));
        is("1", threeWays(), y -> y.ofStep(0, 1));

        says("Promise 28: 7 what it PAYS: \"0\" nothing, a share with \"s\" behind, or a told amount.");
        Treeward pays = oneStep();
        is("0", pays, y -> y.ofStep(0, 7));
        pays.pays(0, 1, 0, 9);
        is("0s", pays, y -> y.ofStep(0, 7));
        pays.pays(0, 1, 4, 8);
        is("1/2s", pays, y -> y.ofStep(0, 7));
        pays.pays(0, 2, 4, 8);
        is("1/2", pays, y -> y.ofStep(0, 7));
        pays.pays(0, 2, 0, 3);
        is("0", pays, y -> y.ofStep(0, 7));
        pays.pays(0, 0, 4, 8);
        is("0", pays, y -> y.ofStep(0, 7));

        says("Promise 28: if there is no such STEP.");
        bounds(INDEX, 0, 1, BUSY, (y, v) -> y.ofStep(v, 0));

        says("Promise 28: if what is not 0 to 7.");
        bounds(ARGUMENT, 0, 7, BUSY, (y, v) -> y.ofStep(0, v));
    }

    // ---- promises 29 to 36

    /** Four steps, the first of three ways; a claim that ends after two of them and may stop. */
    private static Treeward endsEarly() {
        Treeward x = threeThenTwo();
        x.step(3, 2, 1, 2, 1, 1);
        x.step(3, 2, 1, 2, 1, 1);
        claim(x, "9s-p", 2, true);
        return x;
    }

    private static void askedOfClaims() {
        says("Promise 29: if there is no such CLAIM, or no such NODE up to its END.");
        bounds(INDEX, 0, 0, EARLY, (x, v) -> x.due(v, 0, 0));
        bounds(INDEX, 0, 2, EARLY, (x, v) -> x.due(0, v, 0));
        bounds(INDEX, 0, 8, EARLY, (x, v) -> x.due(0, 2, v));
        fails(INDEX, EARLY, x -> x.due(0, 2, 4));
        fails(INDEX, EARLY, x -> x.due(0, 1, 3));
        is("4", refusedNines(), x -> x.due(0, 1, 0));

        says("Promise 30: if there is no such CLAIM, or no such NODE up to its END.");
        bounds(INDEX, 0, 0, EARLY, (x, v) -> x.worth(v, 0, 0, true));
        bounds(INDEX, 0, 2, EARLY, (x, v) -> x.worth(0, v, 0, true));
        bounds(INDEX, 0, 8, EARLY, (x, v) -> x.worth(0, 2, v, false));
        fails(INDEX, EARLY, x -> x.worth(0, 2, 4, false));

        says("Promise 30: if it is refused for a SURE WIN.");
        for (int step = 0; step <= 2; step++) {
            int behind = step;
            fails(STATE, REFUSED, x -> x.worth(0, behind, 0, true));
            fails(STATE, REFUSED, x -> x.worth(0, behind, 0, false));
        }

        says("Promise 31: if there is no such CLAIM, or no such NODE ahead of its END.");
        bounds(INDEX, 0, 0, EARLY, (x, v) -> x.holding(v, 0, 0, true, 0));
        bounds(INDEX, 0, 1, EARLY, (x, v) -> x.holding(0, v, 0, true, 1));
        bounds(INDEX, 0, 2, EARLY, (x, v) -> x.holding(0, 1, v, false, 2));
        fails(INDEX, SEVENS, x -> x.holding(0, 1, 1, false, 2));

        says("Promise 31: if what is not 0 to 2.");
        bounds(ARGUMENT, 0, 2, EARLY, (x, v) -> x.holding(0, 1, 1, true, v));

        says("Promise 31: if it is refused for a SURE WIN.");
        for (int what = 0; what <= 2; what++) {
            int asked = what;
            fails(STATE, REFUSED, x -> x.holding(0, 1, 2, false, asked));
        }

        says("Promise 32: if there is no such CLAIM, or no such NODE ahead of its END.");
        bounds(INDEX, 0, 0, EARLY, (x, v) -> x.stops(v, 0, 0));
        bounds(INDEX, 0, 1, EARLY, (x, v) -> x.stops(0, v, 0));
        bounds(INDEX, 0, 2, EARLY, (x, v) -> x.stops(0, 1, v));

        says("Promise 32: if it is refused for a SURE WIN.");
        fails(STATE, REFUSED, x -> x.stops(0, 0, 0));
        fails(STATE, EdgeTests::refusedNines, x -> x.stops(0, 0, 0));

        says("Promise 33: the NODES at which one STOPS, but at none of those on the way to them; \"\" without any.");
        Treeward best = fourSteps();
        claim(best, "5s-p", 4, true);
        claim(best, "5s-p", 4, false);
        claim(best, "s", 4, true);
        claim(best, "9s-p", 2, true);
        is("2:8 3:0 3:8 3:20", best, x -> x.best(0));
        is("", best, x -> x.best(1));
        is("0:0", best, x -> x.best(2));
        is("1:0", best, x -> x.best(3));
        Treeward never = oneStep();
        claim(never, "s9-p", 1, true);
        is("", never, x -> x.best(0));

        says("Promise 33: best() and stops() tell of the CLAIM that has the number now.");
        Treeward other = twoSteps();
        claim(other, "9s-p", 2, true);
        is("1:0", other, x -> x.best(0));
        other.drop();
        claim(other, "9s-p", 1, true);
        is("", other, x -> x.best(0));
        other.drop();
        claim(other, "9s-p", 2, false);
        is(false, other, x -> x.stops(0, 1, 0));
        is("", other, x -> x.best(0));

        says("Promise 33: if there is no such CLAIM.");
        bounds(INDEX, 0, 0, EARLY, (x, v) -> x.best(v));

        says("Promise 33: if it is refused for a SURE WIN.");
        fails(STATE, REFUSED, x -> x.best(0));
        fails(STATE, EdgeTests::refusedNines, x -> x.best(0));
    }

    private static void askedOfSpanAndImplied() {
        says("Promise 34: Returns HIGH less LOW at the first NODE.");
        Treeward x = threeWays();
        claim(x, "9s-p", 1, false);
        claim(x, "9s-", 1, false);
        is("2", x, y -> y.span(0));
        is("0", x, y -> y.span(1));

        says("Promise 34: if there is no such CLAIM.");
        bounds(INDEX, 0, 0, EARLY, (y, v) -> y.span(v));

        says("Promise 34: if it is refused for a SURE WIN.");
        fails(STATE, REFUSED, y -> y.span(0));

        says("Promise 35: the smallest n of 0 to 20 so that its HIGH at the first NODE is that price or more; NONE "
                + "without.");
        Treeward grows = grows();
        int[][] asked = {{-99, 1}, {12, 1}, {85, 7}, {52, 3}, {87, 5}, {99, 1}};
        int[] due = {0, 0, 1, 20, -1, -1};
        for (int n = 0; n < asked.length; n++) {
            int[] price = asked[n];
            is(due[n], grows, y -> y.implied(0, price[0], price[1]));
        }

        says("Promise 35: with n/10 more for UP of each STEP.");
        Treeward both = twoSteps();
        claim(both, "s9-p", 2, false);
        is(10, both, y -> y.implied(0, 23, 5));
        is("27/8", both, y -> y.worth(0, 0, 0, true));

        says("Promise 35: none ahead of its END has a SURE WIN.");
        grows.rate(0, 3, 2);
        is(1, grows, y -> y.implied(0, -99, 1));
        grows.rate(0, 1, 2);
        is(-1, grows, y -> y.implied(0, -99, 1));
        grows.rate(0, 7, 2);
        is(-1, grows, y -> y.implied(0, -99, 1));
        Treeward last = new Treeward();
        last.step(8, 5, 1, 2, 7, 2);
        claim(last, "s", 1, false);
        is(20, last, y -> y.implied(0, -99, 1));
        Treeward behind = grows();
        behind.step(2, 1, 1, 2, 1, 2);
        is(20, behind, y -> y.implied(0, 52, 3));

        says("Promise 35: if there is no such CLAIM.");
        bounds(INDEX, 0, 0, EARLY, (y, v) -> y.implied(v, 1, 1));

        says("Promise 35: if a is not -99 to 99.");
        bounds(ARGUMENT, -99, 99, EARLY, (y, v) -> y.implied(0, v, 1));

        says("Promise 35: or b not 1 to 9.");
        bounds(ARGUMENT, 1, 9, EARLY, (y, v) -> y.implied(0, 1, v));
    }

    /** With n/10 more for UP the claim's HIGH is 20 (6 + n) / (10 + n). */
    private static Treeward grows() {
        Treeward x = oneStep();
        x.start(false, 40, 1);
        claim(x, "s49*-p", 1, false);
        return x;
    }

    private static Treeward ofLaws() {
        Treeward x = twoSteps();
        claim(x, "s7-p", 2, false);
        claim(x, "7s-p", 2, false);
        claim(x, "7s-p", 1, false);
        claim(x, "ss*", 2, false);
        return x;
    }

    private static void askedOfLaws() {
        says("Promise 36: Returns c, \" \" and d; \".\" if there are none.");
        Treeward x = ofLaws();
        is("1 -7", x, y -> y.law(0, 1));
        is("-1 7", x, y -> y.law(1, 0));
        is("0 0", x, y -> y.law(3, 3));
        is(".", x, y -> y.law(3, 0));
        is(".", x, y -> y.law(0, 3));
        Treeward paid = new Treeward();
        paid.step(3, 5, 1, 2, 4, 7);
        paid.pays(0, 2, 5, 1);
        claim(paid, "s", 1, false);
        claim(paid, "3", 1, false);
        claim(paid, "n2*t-", 1, false);
        is("1x1 5x1", paid, y -> y.prices(1, true));
        is("1 -3", paid, y -> y.law(0, 1));
        is("-1 3", paid, y -> y.law(1, 0));
        is("1 -10", paid, y -> y.law(2, 0));

        Treeward side = twoSteps();
        side.beside(0, 3, 2, 1, 2);
        side.beside(1, 3, 2, 1, 2);
        for (String row : new String[] {"t", "9", "ss*", "tt*"}) {
            claim(side, row, 2, false);
        }
        is("1 -9", side, y -> y.law(0, 1));
        is("-1 9", side, y -> y.law(1, 0));
        is("0 0", side, y -> y.law(2, 3));
        is(".", side, y -> y.law(3, 0));

        says("Promise 36: (c is 0, if all PRICES there are alike).");
        Treeward alike = oneStep();
        alike.start(false, 9, 1);
        alike.pays(0, 2, 9, 1);
        claim(alike, "s", 1, false);
        claim(alike, "4", 1, false);
        claim(alike, "t", 1, false);
        is("0 1/2", alike, y -> y.law(0, 1));
        is("0 -1/2", alike, y -> y.law(1, 0));
        is("0 6", alike, y -> y.law(2, 1));
        alike.beside(0, 2, 1, 1, 2);
        is(".", alike, y -> y.law(2, 1));

        says("Promise 36: at each NODE that is the END of both (not behind it, nor ahead).");
        Treeward longer = fourSteps();
        claim(longer, "s7-p", 2, false);
        claim(longer, "7s-p", 2, false);
        claim(longer, "aa+s-", 1, false);
        claim(longer, "4", 1, false);
        is("1 -7", longer, y -> y.law(0, 1));
        is("0 6", longer, y -> y.law(2, 3));
        longer.start(false, 9, 1);
        longer.pays(0, 2, 9, 1);
        is("0 5", longer, y -> y.law(2, 3));

        says("Promise 36: \".\" if both have unlike ENDS.");
        is(".", x, y -> y.law(1, 2));
        is(".", x, y -> y.law(2, 1));

        says("Promise 36: \".\" if one MAY STOP.");
        Treeward stop = oneStep();
        claim(stop, "s", 1, false);
        claim(stop, "s", 1, true);
        is("0 0", stop, y -> y.law(0, 0));
        is(".", stop, y -> y.law(0, 1));
        is(".", stop, y -> y.law(1, 0));
        is(".", stop, y -> y.law(1, 1));

        says("Promise 36: \".\" if one has a WALL.");
        for (int kind = 1; kind <= 4; kind++) {
            x.wall(1, kind, kind == 1 || kind == 4 ? 1 : 99, kind == 4 ? 9 : 1);
            is(".", x, y -> y.law(0, 1));
            is(".", x, y -> y.law(1, 0));
            is(".", x, y -> y.law(1, 1));
        }
        x.wall(1, 0, 1, 1);
        is("1 -7", x, y -> y.law(0, 1));

        says("Promise 36: it asks nothing that a SURE WIN refuses.");
        x.rate(0, 1, 9);
        is("1 -7", x, y -> y.law(0, 1));

        says("Promise 36: if there is no such CLAIM (both).");
        bounds(INDEX, 0, 3, EdgeTests::ofLaws, (y, v) -> y.law(v, 0));
        bounds(INDEX, 0, 3, EdgeTests::ofLaws, (y, v) -> y.law(0, v));
        fails(INDEX, NEW, y -> y.law(0, 0));
    }

    // ---- promises 37 to 46

    private static void askedOfBook() {
        says("Promise 37: what the BOOK is worth with that START (the less what it is worth now).");
        Treeward x = threeWays();
        claim(x, "9s-p", 1, false);
        claim(x, "t", 1, false);
        is("0", x, y -> y.worthOf(1, 1, false));
        x.book(0, -2);
        x.book(1, 1);
        is("10", x, y -> y.worthOf(10, 1, false));
        is("0", x, y -> y.worthOf(10, 1, true));
        is("5", x, y -> y.worthOf(13, 2, false));
        is("-5", x, y -> y.worthOf(13, 2, true));
        is("10", x, y -> y.price(0, 0, 0));

        says("Promise 37: if a is not 1 to 99.");
        bounds(ARGUMENT, 1, 99, BUSY, (y, v) -> y.worthOf(v, 1, false));

        says("Promise 37: or b not 1 to 9.");
        bounds(ARGUMENT, 1, 9, BUSY, (y, v) -> y.worthOf(1, v, true));

        says("Promise 37: if a CLAIM with a number that is not 0 is refused for a SURE WIN.");
        for (int many : new int[] {-9, -1, 1, 9}) {
            Maker refused = () -> refusedBook(many);
            fails(STATE, refused, y -> y.worthOf(10, 1, false));
            fails(STATE, refused, y -> y.worthOf(10, 1, true));
        }
        is("10", refusedBook(0), y -> y.worthOf(10, 1, false));

        says("Promise 38: the least of all sums of numbers in the BOOK times DUE of the CLAIMS that have that END.");
        Treeward least = oneStep();
        least.beside(0, 4, 3, 1, 7);
        claim(least, "t", 1, false);
        is("0", least, y -> y.least(1));
        least.book(0, 2);
        is("20/7", least, y -> y.least(1));
        claim(least, "s", 1, true);
        least.book(1, -1);
        is("-15/7", least, y -> y.least(1));
        least.book(1, 0);
        least.book(0, -9);
        is("-120", least, y -> y.least(1));
        is("0", least, y -> y.least(0));
        least.step(2, 1, 1, 2, 1, 2);
        claim(least, "5", 2, false);
        least.book(2, 1);
        is("-120", least, y -> y.least(1));
        is("5", least, y -> y.least(2));
        is("0", wallOnly(), y -> y.least(1));

        says("Promise 38: if there are fewer STEPS, or end is below 0.");
        bounds(INDEX, 0, 2, BUSY, (y, v) -> y.least(v));
        bounds(INDEX, 0, 0, NEW, (y, v) -> y.least(v));
    }

    /** What a claim tells is above 0, but its wall makes it 0 at one node. */
    private static Treeward wallOnly() {
        Treeward x = oneStep();
        claim(x, "5", 1, false);
        x.book(0, 3);
        x.wall(0, 1, 15, 1);
        return x;
    }

    private static Treeward refusedBook(int many) {
        Treeward x = refusedClaim();
        x.book(0, many);
        claim(x, "s", 1, false);
        x.book(1, 1);
        return x;
    }

    private static void trades() {
        says("Promise 39: the first CLAIM with a QUOTE that is above HIGH (\"-\") or below LOW (\"+\").");
        Treeward x = threeWays();
        claim(x, "s9-p", 1, false);
        claim(x, "s", 1, false);
        int[][] quotes = {{3, 1}, {1, 1}, {2, 1}, {28, 9}, {8, 9}, {0, 1}, {-99, 1}};
        String[] due = {".", ".", ".", "0- 1/9", "0+ 1/9", "0+ 1", "0+ 100"};
        for (int n = 0; n < quotes.length; n++) {
            x.quote(0, quotes[n][0], quotes[n][1]);
            is(due[n], x, Treeward::trade);
        }
        x.quote(1, 99, 1);
        is("0+ 100", x, Treeward::trade);
        x.quote(0, 3, 1);
        is("1- 89", x, Treeward::trade);

        says("Promise 39: \".\" without.");
        x.quote(1, 10, 1);
        is(".", x, Treeward::trade);
        x.quote(1, 99, 0);
        is(".", x, Treeward::trade);
        is(".", new Treeward(), Treeward::trade);

        says("Promise 39: (CLAIMS that are refused for a SURE WIN are passed over).");
        Treeward sure = twoSteps();
        claim(sure, "s", 2, false);
        claim(sure, "s", 1, false);
        sure.quote(0, 99, 1);
        sure.quote(1, 9, 1);
        is("0- 89", sure, Treeward::trade);
        sure.rate(1, 9, 1);
        is("1+ 1", sure, Treeward::trade);
        sure.rate(0, 9, 1);
        is(".", sure, Treeward::trade);
    }

    private static void askedOfPlay() {
        says("Promise 40: that of the PLAY; \".\" without one.");
        Treeward x = sevens();
        for (int n = 0; n < 5; n++) {
            int what = n;
            is(".", new Treeward(), y -> y.played(what));
            is(".", x, y -> y.played(what));
        }
        x.sell(0);
        played(x, "7", "0", "10", "0", "0");
        x.wall(0, 0, 1, 1);
        is(".", x, y -> y.played(2));

        says("Promise 40: if what is not 0 to 4.");
        bounds(ARGUMENT, 0, 4, BUSY, (y, v) -> y.played(v));
        bounds(ARGUMENT, 0, 4, NEW, (y, v) -> y.played(v));

        says("Promise 41: 1 1 if it MAY STOP, 4 1 if it has a QUOTE, 5 1 if it is refused, otherwise 0.");
        Treeward claims = busy();
        int[][] due = {{2, 1, 0, 3, 1, 0, 4}, {1, 0, 2, -2, 0, 0, 1}};
        for (int n = 0; n < 14; n++) {
            int claim = n / 7;
            int what = n % 7;
            is(due[claim][what], claims, y -> y.ofClaim(claim, what));
        }
        claims.rate(1, 2, 1);
        is(1, claims, y -> y.ofClaim(0, 5));
        is(0, claims, y -> y.ofClaim(1, 5));
        claims.rate(0, 1, 2);
        is(1, claims, y -> y.ofClaim(1, 5));
        Treeward seven = fullSlip();
        seven.step(2, 1, 1, 2, 1, 1);
        seven.claim(1, false);
        is(7, seven, y -> y.ofClaim(0, 6));

        says("Promise 41: if there is no such CLAIM.");
        bounds(INDEX, 0, 1, BUSY, (y, v) -> y.ofClaim(v, 0));

        says("Promise 41: if what is not 0 to 6.");
        bounds(ARGUMENT, 0, 6, BUSY, (y, v) -> y.ofClaim(1, v));

        says("Promise 42: Returns its SIGNS as they are written (also as the SLIP is another one).");
        Treeward told = oneStep();
        for (String row : new String[] {"012+3*-", "456v7w+", "89saxnt", "t"}) {
            write(told, row);
            alike(row.equals("89saxnt") ? -9 : told.house(1), told.claim(1, false));
        }
        claim(told, "89+sv", 1, false);
        told.wipe();
        is("012+3*-", told, y -> y.told(0));
        is("456v7w+", told, y -> y.told(1));
        is("t", told, y -> y.told(2));
        is("89+sv", told, y -> y.told(3));

        says("Promise 42: if there is no such CLAIM.");
        bounds(INDEX, 0, 1, BUSY, (y, v) -> y.told(v));
    }

    private static void house() {
        says("Promise 43: Returns FAULT of the SLIP.");
        Treeward x = new Treeward();
        is(0, x, Treeward::fault);
        int[] signs = {10, 20, 9, 16, 15, 5, 18};
        int[] due = {-1, -1, 3, -1, 4, 4, 4};
        for (int n = 0; n < 7; n++) {
            x.type(signs[n]);
            is(due[n], x, Treeward::fault);
        }

        says("Promise 44: 3 1 if there is a PLAY, 2 if it is over, otherwise 0; 4 how many STEPS (NONE).");
        Treeward play = sevens();
        is(0, play, y -> y.house(3));
        is(-1, play, y -> y.house(4));
        play.sell(0);
        is(1, play, y -> y.house(3));
        is(0, play, y -> y.house(4));
        play.day(0);
        play.day(2);
        is(2, play, y -> y.house(3));
        is(2, play, y -> y.house(4));
        play.drop();
        is(0, play, y -> y.house(3));
        is(-1, play, y -> y.house(4));

        says("Promise 44: 8 the first STEP with a SURE WIN (NONE).");
        Treeward sure = fourSteps();
        is(-1, sure, y -> y.house(8));
        for (int step = 3; step >= 0; step--) {
            sure.rate(step, 1, 2);
            int first = step;
            is(first, sure, y -> y.house(8));
        }
        is(-1, new Treeward(), y -> y.house(8));

        says("Promise 44: if what is not 0 to 8.");
        bounds(ARGUMENT, 0, 8, BUSY, (y, v) -> y.house(v));
        bounds(ARGUMENT, 0, 8, NEW, (y, v) -> y.house(v));

        says("Promise 45: whether all of this is so (it is so on each desk).");
        is(true, new Treeward(), Treeward::isSound);
        is(true, busy(), Treeward::isSound);
        is(true, busyAndFull(), Treeward::isSound);
        is(true, heavy(), Treeward::isSound);
        is(true, refusedClaim(), Treeward::isSound);
        is(true, refusedNines(), Treeward::isSound);
        is(true, sure, Treeward::isSound);
    }

    // ---- the digest, of what is due by hand

    private static BigInteger folded;

    private static void fold(Object... values) {
        for (Object value : values) {
            if (value instanceof String) {
                String text = (String) value;
                fold(text.length());
                for (char c : text.toCharArray()) {
                    fold((int) c);
                }
            } else {
                folded = folded.multiply(BigInteger.valueOf(31)).add(BigInteger.valueOf((Integer) value));
            }
        }
    }

    private static void digests() {
        says("Promise 46: d * 31 + v, which wraps around as a 64-bit integer.");
        folded = BigInteger.valueOf(6900);
        fold(0, 0, 0, 0, -1, 0, 0, 0, -1, "10x1", -1, ".", ".", ".", ".", ".", ".", 0, 1);
        is(folded.longValue(), new Treeward(), Treeward::digest);
        alike(true, folded.bitLength() > 63);

        says("Promise 46: STEP by STEP, CLAIM by CLAIM.");
        Treeward x = oneStep();
        claim(x, "9s-p", 1, true);
        folded = BigInteger.valueOf(6900);
        fold(1, 1, 0, 0, -1, 2, 0, 0, -1);
        fold("3/2", ".", "1/2", "1", "1", "1", "1", "0", ".", "1/2", "5x1 15x1", -1);
        fold("9s-p", 1, 1, 0, 0, 0, 0, 4, "0", "2", "2", "-2/5", "6", "-2/5", "6", "");
        fold(".", ".", ".", ".", ".", ".", -1, 1);
        is(folded.longValue(), x, Treeward::digest);

        says("Promise 46: and, if it is not refused: worth(), holding(), best().");
        x.rate(0, 1, 2);
        x.quote(0, 99, 1);
        x.wipe();
        folded = BigInteger.valueOf(6900);
        fold(1, 1, 1, 0, -1, 4, 0, 0, 0);
        fold("3/2", ".", "1/2", "1/2", "1", "1", "1", "0", "+", ".", "5x1 15x1", -1);
        fold("9s-p", 1, 1, 0, 0, 1, 1, 4, "0");
        fold(".", ".", ".", ".", ".", ".", 0, 1);
        is(folded.longValue(), x, Treeward::digest);
        x.rate(0, 5, 4);
        x.pays(0, 1, 1, 5);
        x.sell(0);
        folded = BigInteger.valueOf(6900);
        fold(1, 1, 1, 1, 0, 7, 0, 0, -1);
        fold("3/2", ".", "1/2", "5/4", "1", "1", "1", "1/5s", ".", "3/4", "4x1 12x1", 0);
        fold("9s-p", 1, 1, 0, 0, 1, 0, 4, "0", "1", "1", "-1/2", "6", "-1/2", "6", "");
        fold("0- 98", "6", "-1/2", "10", "0", "0", 0, 1);
        is(folded.longValue(), x, Treeward::digest);
    }

    public static void main(String[] args) {
        ofTheWhole();
        ofAllMethods();
        severalExceptions();
        terms1();
        terms1OfPrices();
        terms2();
        walls();
        worths();
        holdingsAndStops();
        terms3();
        fees();
        terms4();
        terms4OfUndoing();
        askedFirst();
        tree();
        treeChanged();
        treePaysAndBeside();
        claims();
        book();
        play();
        stopped();
        slipAndSteps();
        askedOfTree();
        askedOfSteps();
        askedOfClaims();
        askedOfSpanAndImplied();
        askedOfLaws();
        askedOfBook();
        trades();
        askedOfPlay();
        house();
        digests();
        int all = sentences;
        says("the end");
        System.out.println(wrong == 0 ? all + " sentences hold, " + checks + " answers are as due"
                : wrong + " answers are not as due");
        if (wrong != 0) {
            System.exit(1);
        }
    }
}
