/**
 * Desks on which no two steps, ways, claims or days are alike, so that a number taken from the wrong one
 * is seen. What is due was reckoned by hand from the document.
 */
public final class UnlikeTests {
    private static final String SIGNS = "0123456789saxnt+-*vwp";

    private static int promise;
    private static int checks;
    private static int wrong;

    interface Ask {
        Object of(Treeward x);
    }

    private static void is(Object due, Treeward x, Ask ask) {
        checks++;
        String got;
        try {
            got = String.valueOf(ask.of(x));
        } catch (RuntimeException e) {
            got = e.getClass().getSimpleName();
        }
        if (!String.valueOf(due).equals(got)) {
            wrong++;
            int line = new Throwable().getStackTrace()[1].getLineNumber();
            System.out.println("promise " + promise + ", line " + line + ": answered " + got
                    + ", due is " + due);
        }
    }

    private static int claim(Treeward x, String row, int end, boolean isStop) {
        x.wipe();
        for (char c : row.toCharArray()) {
            x.type(SIGNS.indexOf(c));
        }
        return x.claim(end, isStop);
    }

    /** So many steps of 3/2 and 1/2 without interest: 10; 5 15; .. */
    private static Treeward steps(int many) {
        Treeward x = new Treeward();
        for (int n = 0; n < many; n++) {
            x.step(3, 2, 1, 2, 1, 1);
        }
        return x;
    }

    /** 10; 5 15; then 1/2, 4/3 and 2 times that, with an interest of 5/4. */
    private static Treeward middleBehind() {
        Treeward x = steps(1);
        x.step(2, 1, 1, 2, 5, 4);
        x.middle(1, 4, 3);
        return x;
    }

    // ---- the tree

    private static void lowerNumbers() {
        promise = 22;
        Treeward up = new Treeward();
        up.step(9, 7, 1, 2, 1, 1);
        is("90/7", up, x -> x.price(1, 2, 0));
        is("5", up, x -> x.price(1, 0, 0));
        up.start(false, 16, 1);
        up.step(9, 8, 1, 1, 1, 1);
        up.step(8, 9, 5, 6, 1, 1);
        up.step(5, 4, 1, 1, 1, 1);
        is("144/7", up, x -> x.price(2, 6, 0));
        is("128/7", up, x -> x.price(3, 20, 0));
        is("160/7", up, x -> x.price(4, 62, 0));
        is("20/3", up, x -> x.price(4, 0, 0));
        Treeward middle = steps(1);
        middle.step(3, 1, 1, 1, 2, 1);
        middle.middle(1, 5, 3);
        is("25", middle, x -> x.price(2, 7, 0));
        is("25/3", middle, x -> x.price(2, 1, 0));
        middle.step(3, 1, 1, 1, 2, 1);
        middle.middle(2, 8, 7);
        is("200/21", middle, x -> x.price(3, 4, 0));
        middle.start(false, 20, 1);
        is("80/7", middle, x -> x.price(3, 1, 0));

        promise = 6;
        Treeward share = steps(2);
        share.pays(1, 1, 1, 7);
        is("45/14", share, x -> x.price(2, 8, 5));
        is("135/7", share, x -> x.price(2, 8, 0));
        is("0", share, x -> x.price(1, 2, 5));
        is("15", share, x -> x.price(1, 2, 0));
        share.pays(1, 2, 7, 9);
        is("7/9", share, x -> x.price(2, 8, 5));
        is("391/18", share, x -> x.price(2, 8, 0));
        is("0", share, x -> x.price(1, 0, 5));
        share.pays(0, 1, 1, 5);
        is("3", share, x -> x.price(1, 2, 5));
        is("7/9", share, x -> x.price(2, 6, 5));
    }

    private static void otherStock() {
        promise = 2;
        Treeward x = steps(2);
        is(1, x, y -> y.start(true, 7, 9));
        is("7/9", x, y -> y.price(0, 0, 4));
        is("7/9", x, y -> y.price(2, 8, 4));
        is("10", x, y -> y.price(0, 0, 0));
        x.start(false, 5, 4);
        is("5/4", x, y -> y.price(0, 0, 0));
        is("7/9", x, y -> y.price(1, 0, 4));

        promise = 7;
        is(1, x, y -> y.beside(0, 2, 1, 1, 2));
        is("14/9", x, y -> y.price(1, 2, 4));
        is("7/18", x, y -> y.price(1, 0, 4));
        is(-1, x, y -> y.beside(1, 1, 5, 2, 5));
        is("14/45", x, y -> y.price(2, 8, 4));
        is("7/45", x, y -> y.price(2, 0, 4));
        x.start(true, 9, 1);
        x.middle(1, 1, 1);
        is("27/5", x, y -> y.price(2, 7, 4));
        is("18/5", x, y -> y.price(2, 8, 4));
        is("36/5", x, y -> y.price(2, 6, 4));
    }

    private static void meansAndEnds() {
        promise = 22;
        Treeward mean = new Treeward();
        mean.start(false, 1, 1);
        String[] due = {"3/2", "7/3", "15/4", "31/5"};
        for (int n = 1; n <= 4; n++) {
            int step = n;
            mean.step(2, 1, 1, 1, 1, 1);
            is(due[n - 1], mean, x -> x.price(step, (int) Math.pow(3, step) - 1, 1));
            is("1", mean, x -> x.price(step, 0, 1));
        }
        Treeward ends = new Treeward();
        ends.step(3, 1, 1, 2, 1, 1);
        ends.step(3, 2, 1, 2, 1, 1);
        is("30", ends, x -> x.price(2, 6, 2));
        is("15", ends, x -> x.price(2, 6, 0));
        is("10", ends, x -> x.price(2, 6, 3));
        is("5", ends, x -> x.price(2, 2, 3));
        is("15/2", ends, x -> x.price(2, 2, 0));
        is("10", ends, x -> x.price(2, 2, 2));
        is("5/2", ends, x -> x.price(2, 0, 3));
        is("45", ends, x -> x.price(2, 8, 2));
        promise = 29;
        claim(ends, "x", 2, false);
        claim(ends, "n", 2, false);
        is("30", ends, x -> x.due(0, 2, 6));
        is("5", ends, x -> x.due(1, 2, 2));
        claim(ends, "a", 2, false);
        is("10", ends, x -> x.due(2, 0, 0));
        is("20", ends, x -> x.due(2, 1, 2));
        is("15/2", ends, x -> x.due(2, 1, 0));
        is("55/3", ends, x -> x.due(2, 2, 6));
    }

    // ---- claims

    private static void worthsOfUnlikeSteps() {
        promise = 30;
        Treeward x = middleBehind();
        claim(x, "s9-p", 2, false);
        String[][] due = {{"22/5", "99/25"}, {"2/5", "0"}, {"42/5", "198/25"}};
        int[][] node = {{0, 0}, {1, 0}, {1, 2}};
        for (int n = 0; n < 3; n++) {
            int[] at = node[n];
            is(due[n][0], x, y -> y.worth(0, at[0], at[1], true));
            is(due[n][1], x, y -> y.worth(0, at[0], at[1], false));
        }
        is("21", x, y -> y.worth(0, 2, 8, true));
        is("11", x, y -> y.worth(0, 2, 7, false));
        promise = 34;
        is("11/25", x, y -> y.span(0));

        promise = 31;
        String[][] high = {{"4/5", "-18/5", "22/5"}, {"2/15", "-4/15", "2/5"}, {"14/15", "-28/5", "42/5"}};
        String[][] low = {{"99/125", "-99/25", "99/25"}, {"0", "0", "0"}, {"22/25", "-132/25", "198/25"}};
        for (int n = 0; n < 3; n++) {
            int[] at = node[n];
            for (int k = 0; k < 3; k++) {
                int what = k;
                is(high[n][k], x, y -> y.holding(0, at[0], at[1], true, what));
                is(low[n][k], x, y -> y.holding(0, at[0], at[1], false, what));
            }
        }
    }

    /** The two ways that are taken are not the same ones at each node, nor for HIGH and LOW. */
    private static void waysOfEachNode() {
        promise = 31;
        Treeward x = middleBehind();
        claim(x, "54*sw", 2, false);
        claim(x, "54*sv", 2, false);
        is("15", x, y -> y.worth(0, 1, 2, true));
        is("11", x, y -> y.worth(0, 1, 2, false));
        is("1", x, y -> y.holding(0, 1, 2, true, 0));
        is("0", x, y -> y.holding(0, 1, 2, true, 1));
        is("5/9", x, y -> y.holding(0, 1, 2, false, 0));
        is("8/3", x, y -> y.holding(0, 1, 2, false, 1));
        is("1", x, y -> y.holding(0, 1, 0, false, 0));
        is("0", x, y -> y.holding(0, 1, 0, false, 1));
        is("20", x, y -> y.worth(1, 1, 2, true));
        is("16", x, y -> y.worth(1, 1, 2, false));
        is("4/9", x, y -> y.holding(1, 1, 2, true, 0));
        is("40/3", x, y -> y.holding(1, 1, 2, true, 1));
        is("0", x, y -> y.holding(1, 1, 2, false, 0));
        is("16", x, y -> y.holding(1, 1, 2, false, 1));
        is("0", x, y -> y.holding(1, 1, 0, true, 0));
        is("2/5", x, y -> y.holding(1, 0, 0, true, 0));
        is("14", x, y -> y.holding(1, 0, 0, true, 1));
    }

    private static void stopsOnUnlikeSteps() {
        promise = 33;
        Treeward x = steps(1);
        x.step(2, 1, 1, 2, 5, 4);
        claim(x, "9s-p", 2, true);
        is("23/10", x, y -> y.worth(0, 0, 0, true));
        is("23/10", x, y -> y.worth(0, 0, 0, false));
        is("4", x, y -> y.worth(0, 1, 0, true));
        is("3/5", x, y -> y.worth(0, 1, 2, true));
        is("1:0", x, y -> y.best(0));
        claim(x, "5a-p", 2, true);
        claim(x, "7", 2, true);
        is("0:0", x, y -> y.best(2));
        x.rate(0, 5, 4);
        claim(x, "7", 1, false);
        is("28/5", x, y -> y.worth(3, 0, 0, true));

        Treeward gone = steps(1);
        gone.step(2, 1, 1, 2, 5, 4);
        claim(gone, "5", 2, true);
        gone.wall(0, 1, 11, 1);
        is("1:0 1:2", gone, y -> y.best(0));
        gone.middle(0, 6, 5);
        is("1:0 1:1 1:2", gone, y -> y.best(0));
        is("25/7", gone, y -> y.worth(0, 0, 0, true));
        is("5/2", gone, y -> y.worth(0, 0, 0, false));
        gone.undo();
        is("1:0 1:2", gone, y -> y.best(0));
    }

    private static void impliedBehindTheFirst() {
        promise = 35;
        Treeward x = steps(1);
        x.step(3, 2, 1, 2, 3, 2);
        claim(x, "s", 2, false);
        claim(x, "s", 1, false);
        is(1, x, y -> y.implied(0, 1, 1));
        is(0, x, y -> y.implied(1, 1, 1));
        is(-1, x, y -> y.implied(0, 21, 2));
    }

    private static void laws() {
        promise = 36;
        Treeward x = steps(1);
        claim(x, "n", 1, false);
        claim(x, "0", 1, false);
        is("1/2 5/2", x, y -> y.law(0, 1));
        is("-1/2 -5/2", x, y -> y.law(1, 0));
        Treeward alike = steps(1);
        alike.start(false, 9, 1);
        alike.pays(0, 2, 9, 1);
        claim(alike, "7", 1, false);
        claim(alike, "2", 1, false);
        is("9/2x2", alike, y -> y.prices(1, true));
        is("7", alike, y -> y.worth(0, 0, 0, true));
        is("0 5", alike, y -> y.law(0, 1));
        is("9", alike, y -> y.price(0, 0, 0));
        is("0 -5", alike, y -> y.law(1, 0));
    }

    // ---- book, quotes, play

    private static void books() {
        promise = 37;
        Treeward four = steps(1);
        for (int n = 0; n < 4; n++) {
            claim(four, "s", 1, n % 2 == 0);
            four.book(n, n + 1);
        }
        is("70", four, x -> x.worthOf(7, 1, false));
        is("-30", four, x -> x.worthOf(7, 1, true));
        Treeward dropped = steps(1);
        dropped.step(2, 1, 3, 2, 1, 1);
        claim(dropped, "s", 1, false);
        claim(dropped, "s", 2, false);
        dropped.book(1, 3);
        is("IllegalStateException", dropped, x -> x.worthOf(7, 1, false));
        dropped.drop();
        is("0", dropped, x -> x.worthOf(7, 1, false));

        promise = 38;
        Treeward down = steps(1);
        down.middle(0, 1, 1);
        claim(down, "99+s-", 1, false);
        down.book(0, 1);
        is("3", down, x -> x.least(1));
        is("0", down, x -> x.least(0));
        for (String rows : new String[] {"t5", "5t"}) {
            Treeward mixed = steps(1);
            mixed.start(true, 7, 3);
            claim(mixed, rows.substring(0, 1), 1, false);
            claim(mixed, rows.substring(1), 1, false);
            mixed.book(rows.indexOf('t'), 1);
            mixed.book(rows.indexOf('5'), 2);
            is("37/3", mixed, x -> x.least(1));
            claim(mixed, "s", 1, false);
            mixed.book(2, -1);
            is("-8/3", mixed, x -> x.least(1));
            mixed.book(rows.indexOf('t'), -9);
            mixed.book(2, 1);
            is("-6", mixed, x -> x.least(1));
        }

        promise = 39;
        Treeward second = steps(1);
        claim(second, "1", 1, false);
        claim(second, "5", 1, false);
        claim(second, "9", 1, false);
        second.quote(1, 4, 1);
        is("1+ 1", second, Treeward::trade);
        second.quote(1, 6, 1);
        is("1- 1", second, Treeward::trade);
        second.quote(1, 5, 1);
        second.quote(2, 17, 2);
        is("2+ 1/2", second, Treeward::trade);
    }

    private static void plays() {
        promise = 16;
        Treeward x = steps(4);
        claim(x, "s", 4, false);
        claim(x, "s", 1, false);
        claim(x, "9s-p", 4, true);
        x.fee(1, 2);
        x.sell(0);
        for (int n = 1; n <= 4; n++) {
            int day = n;
            x.fee(1, 2 + n);
            is(day, x, y -> y.day(2));
            is("-5", x, y -> y.played(0));
        }
        is(2, x, y -> y.house(3));
        is("405/8", x, y -> y.played(2));
        x.fee(1, 2);
        is(1, x, y -> y.sell(1));
        is(1, x, y -> y.day(2));
        is("-5", x, y -> y.played(0));
        is("5", x, y -> y.played(4));
        is("-5", x, y -> y.played(3));
        is("0", x, y -> y.played(1));
    }

    /** Nothing can make it false; desks of all kinds are looked at, lest one looks at the wrong number. */
    private static void soundDesks() {
        promise = 45;
        String[] rows = {"s9-p", "54*sw", "ts*", "a", "9x-", "n5-p"};
        for (int n = 0; n < 4 * rows.length; n++) {
            Treeward x = new Treeward();
            boolean[] hasMiddle = {n % 4 == 1, n % 4 == 2, n % 4 == 3};
            x.step(3, 2, 1, 2, 1, 1);
            x.step(2, 1, 1, 2, 5, 4);
            x.step(5, 4, 3, 4, 9, 8);
            int[][] middle = {{6, 5}, {4, 3}, {1, 1}};
            for (int step = 0; step < 3; step++) {
                if (hasMiddle[step]) {
                    x.middle(step, middle[step][0], middle[step][1]);
                }
            }
            x.beside(1, 4, 3, 2, 3);
            x.pays(n % 3, 1 + n % 2, 1, 4);
            for (int claim = 0; claim < 4; claim++) {
                claim(x, rows[(n + claim) % rows.length], 1 + claim % 3, claim % 2 == n % 2);
            }
            x.wall(n % 4, 1 + n / 4 % 4, 12, 1);
            x.quote((n + 1) % 4, 3, 1);
            is(true, x, Treeward::isSound);
            x.step(9, 7, 5, 7, n % 2 == 0 ? 5 : 9, 7);
            is(true, x, Treeward::isSound);
            x.middle(3, 6, 7);
            x.rate(n % 3, 1, 4);
            is(true, x, Treeward::isSound);
            x.rate(n % 3, 3, 1);
            is(true, x, Treeward::isSound);
        }
    }

    private static void soundAtTheEdges() {
        promise = 45;
        Treeward least = new Treeward();
        least.step(2, 1, 1, 1, 1, 1);
        least.step(1, 1, 1, 2, 1, 1);
        is("+", least, x -> x.sure(0));
        is("-", least, x -> x.sure(1));
        is(true, least, Treeward::isSound);
        Treeward changed = steps(2);
        claim(changed, "s9-p", 2, false);
        is("27/8", changed, x -> x.worth(0, 0, 0, true));
        changed.rate(0, 9, 8);
        is("5", changed, x -> x.price(1, 0, 0));
        is(true, changed, Treeward::isSound);
        changed.drop();
        changed.rate(1, 9, 8);
        is("15", changed, x -> x.price(1, 2, 0));
        is(true, changed, Treeward::isSound);
    }

    // ---- steps back

    private static void undoneSteps() {
        promise = 20;
        Treeward x = new Treeward();
        for (int n = 1; n <= 4; n++) {
            x.step(9, n, 1, n, 8, n);
        }
        x.unstep();
        x.step(2, 1, 1, 2, 1, 1);
        x.undo();
        x.undo();
        is("9/4", x, y -> y.ofStep(3, 0));
        is("1/4", x, y -> y.ofStep(3, 2));
        is("2", x, y -> y.ofStep(3, 3));
        String[] interest = {"8", "4", "8/3", "2"};
        for (int n = 0; n < 4; n++) {
            int step = n;
            x.rate(step, 1, 1);
            x.middle(step, 5, n + 1);
            x.pays(step, 1, 1, 9);
            x.beside(step, 1, 9, 9, 1);
            for (int k = 0; k < 4; k++) {
                x.undo();
            }
            is(interest[n], x, y -> y.ofStep(step, 3));
            is(".", x, y -> y.ofStep(step, 1));
            is("0", x, y -> y.ofStep(step, 7));
            is("1", x, y -> y.ofStep(step, 4));
        }
    }

    private static void undoneClaims() {
        promise = 20;
        Treeward x = steps(2);
        String[] rows = {"1", "2", "3", "4"};
        for (int n = 0; n < 4; n++) {
            claim(x, rows[n], 1 + n % 2, n < 2);
            x.wall(n, 1 + n, 1 + n, 9);
            x.wall(n, 0, 1, 1);
        }
        for (int n = 0; n < 4; n++) {
            x.quote(n, n == 0 ? 7 : n == 1 ? -3 : 5 + n, 2);
        }
        x.quote(0, 1, 0);
        for (int n = 0; n < 3; n++) {
            x.fee(1, 3 + n);
            x.undo();
        }
        is(0, x, y -> y.ofClaim(0, 4));
        is(1, x, y -> y.ofClaim(2, 4));
        is("1+ 7/2", x, Treeward::trade);
        x.undo();
        is(1, x, y -> y.ofClaim(0, 4));
        is("0- 5/2", x, Treeward::trade);
        x.quote(0, 1, 0);
        x.quote(1, 1, 0);
        is("2- 1/2", x, Treeward::trade);
        x.quote(2, 1, 0);
        is(".", x, Treeward::trade);
        x.quote(3, 9, 2);
        is("3- 1/2", x, Treeward::trade);
        x.undo();
        is(".", x, Treeward::trade);

        Treeward fourth = steps(1);
        for (int n = 0; n < 4; n++) {
            claim(fourth, "s", 1, n == 2);
            fourth.book(n, n - 9);
        }
        fourth.drop();
        claim(fourth, "5", 1, true);
        fourth.undo();
        fourth.undo();
        is("s", fourth, y -> y.told(3));
        is(0, fourth, y -> y.ofClaim(3, 1));
        is(-6, fourth, y -> y.ofClaim(3, 3));
        is("10", fourth, y -> y.worth(3, 0, 0, true));
        fourth.start(false, 3, 2);
        is("3/2", fourth, y -> y.worth(3, 0, 0, true));
        is("3/4", fourth, y -> y.due(3, 1, 0));
        fourth.undo();
        is("10", fourth, y -> y.worth(3, 0, 0, true));
    }

    private static void undoneDays() {
        promise = 20;
        Treeward x = steps(4);
        claim(x, "s9-p", 4, false);
        x.fee(1, 2);
        x.sell(0);
        int[] below = {3, 5, 7};
        int[] ways = {2, 0, 2};
        String[] fees = {"459/128", "33/8", "183/40", "777/160"};
        for (int n = 0; n < 3; n++) {
            x.fee(1, below[n]);
            x.day(ways[n]);
        }
        x.book(0, 1);
        x.undo();
        is("45/4", x, y -> y.played(2));
        for (int n = 3; n >= 0; n--) {
            int days = n;
            is(days, x, y -> y.house(4));
            is(fees[n], x, y -> y.played(4));
            if (n > 0) {
                x.undo();
                is(fees[n - 1], x, y -> y.played(4));
                x.undo();
            }
        }
    }

    public static void main(String[] args) {
        lowerNumbers();
        otherStock();
        meansAndEnds();
        worthsOfUnlikeSteps();
        waysOfEachNode();
        stopsOnUnlikeSteps();
        impliedBehindTheFirst();
        laws();
        books();
        plays();
        soundDesks();
        soundAtTheEdges();
        undoneSteps();
        undoneClaims();
        undoneDays();
        System.out.println(wrong == 0 ? checks + " answers are as due" : wrong + " answers are not as due");
        if (wrong != 0) {
            System.exit(1);
        }
    }
}
