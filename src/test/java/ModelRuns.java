import java.math.BigInteger;
import java.util.ArrayList;
import java.util.List;
import java.util.TreeMap;

/**
 * Runs of made-up calls on the class and on a plain model of the document, which reckons each
 * answer anew with fractions in lowest terms. All answers, exceptions too, must be alike.
 */
public final class ModelRuns {
    private static int wrong = 0;
    private static long seed = 1;

    private static int pick(int bound) {
        seed = seed * 6364136223846793005L + 1442695040888963407L;
        return (int) ((seed >>> 33) % bound);
    }

    private static int between(int least, int most) {
        return least + pick(most - least + 1);
    }

    /** Mostly a number within the bounds, now and then one at or behind an edge, or a wild one. */
    private static int near(int least, int most) {
        int chance = pick(60);
        if (chance == 0) {
            return least - 1;
        }
        if (chance == 1) {
            return most + 1;
        }
        if (chance == 2) {
            int[] wild = {Integer.MIN_VALUE, Integer.MAX_VALUE, -1, 0, 1 << 16, -(1 << 20), 1000000007};
            return wild[pick(wild.length)];
        }
        return most < least ? least : between(least, most);
    }

    interface Call {
        Object answer();
    }

    private static String run(Call call) {
        try {
            return String.valueOf(call.answer());
        } catch (IndexOutOfBoundsException e) {
            return e.getClass() == IndexOutOfBoundsException.class ? "throws index" : "throws " + e;
        } catch (IllegalArgumentException e) {
            return e.getClass() == IllegalArgumentException.class ? "throws argument" : "throws " + e;
        } catch (IllegalStateException e) {
            return e.getClass() == IllegalStateException.class ? "throws state" : "throws " + e;
        } catch (RuntimeException e) {
            return "throws " + e;
        }
    }

    static final class F implements Comparable<F> {
        static final F ZERO = of(0, 1);
        final BigInteger n;
        final BigInteger d;

        F(BigInteger n, BigInteger d) {
            BigInteger g = n.gcd(d);
            if (d.signum() < 0) {
                g = g.negate();
            }
            this.n = n.divide(g);
            this.d = d.divide(g);
        }

        static F of(long n, long d) {
            return new F(BigInteger.valueOf(n), BigInteger.valueOf(d));
        }

        F plus(F o) {
            return new F(n.multiply(o.d).add(o.n.multiply(d)), d.multiply(o.d));
        }

        F less(F o) {
            return new F(n.multiply(o.d).subtract(o.n.multiply(d)), d.multiply(o.d));
        }

        F times(F o) {
            return new F(n.multiply(o.n), d.multiply(o.d));
        }

        F over(F o) {
            return new F(n.multiply(o.d), d.multiply(o.n));
        }

        F size() {
            return new F(n.abs(), d);
        }

        F max(F o) {
            return compareTo(o) >= 0 ? this : o;
        }

        F min(F o) {
            return compareTo(o) <= 0 ? this : o;
        }

        @Override
        public int compareTo(F o) {
            return n.multiply(o.d).compareTo(o.n.multiply(d));
        }

        boolean is(F o) {
            return compareTo(o) == 0;
        }

        @Override
        public String toString() {
            return d.equals(BigInteger.ONE) ? n.toString() : n + "/" + d;
        }
    }

    static final class Stage implements Cloneable {
        F[] factor = new F[3];
        F[] side = {F.of(1, 1), F.of(1, 1), F.of(1, 1)};
        F interest;
        int payKind = 0;
        F pay = F.ZERO;

        Stage copy() {
            Stage c = new Stage();
            c.factor = factor.clone();
            c.side = side.clone();
            c.interest = interest;
            c.payKind = payKind;
            c.pay = pay;
            return c;
        }

        String sure() {
            return interest.compareTo(factor[0]) <= 0 ? "+" : interest.compareTo(factor[2]) >= 0 ? "-" : ".";
        }

        F weight(int way) {
            F up = interest.less(factor[0]).over(factor[2].less(factor[0]));
            return way == 2 ? up : F.of(1, 1).less(up);
        }
    }

    static final class Paper {
        List<Integer> signs;
        int end;
        boolean mayStop;
        int wall = 0;
        F level;
        int many = 0;
        F quote;

        Paper copy() {
            Paper c = new Paper();
            c.signs = signs;
            c.end = end;
            c.mayStop = mayStop;
            c.wall = wall;
            c.level = level;
            c.many = many;
            c.quote = quote;
            return c;
        }
    }

    static final class Desk {
        F start = F.of(10, 1);
        F other = F.of(10, 1);
        List<Stage> steps = new ArrayList<>();
        List<Paper> claims = new ArrayList<>();
        F fee = F.ZERO;
        int sold = -1;
        List<Integer> ways = new ArrayList<>();
        boolean over;
        F money;
        F pieces;
        F fees;

        Desk copy() {
            Desk c = new Desk();
            c.start = start;
            c.other = other;
            for (Stage s : steps) {
                c.steps.add(s.copy());
            }
            for (Paper p : claims) {
                c.claims.add(p.copy());
            }
            c.fee = fee;
            c.sold = sold;
            c.ways = new ArrayList<>(ways);
            c.over = over;
            c.money = money;
            c.pieces = pieces;
            c.fees = fees;
            return c;
        }
    }

    /** What the document says, as plainly as it can be written. */
    static final class Model {
        Desk desk = new Desk();
        List<Desk> back = new ArrayList<>();
        List<Integer> slip = new ArrayList<>();
        int knocks;
        int refusals;

        static void argument(boolean isFine) {
            if (!isFine) {
                throw new IllegalArgumentException();
            }
        }

        static void index(boolean isFine) {
            if (!isFine) {
                throw new IndexOutOfBoundsException();
            }
        }

        static void state(boolean isFine) {
            if (!isFine) {
                throw new IllegalStateException();
            }
        }

        static boolean in(int x, int a, int b) {
            return a <= x && x <= b;
        }

        void change(boolean isOfTree) {
            back.add(desk.copy());
            if (back.size() > 8) {
                back.remove(0);
            }
            if (isOfTree) {
                desk.sold = -1;
            }
        }

        boolean isStep(int s) {
            return in(s, 0, desk.steps.size() - 1);
        }

        boolean isClaim(int c) {
            return in(c, 0, desk.claims.size() - 1);
        }

        int start(boolean isOther, int a, int b) {
            argument(in(a, 1, 99) && in(b, 1, 9));
            F now = F.of(a, b);
            change(true);
            boolean was = !now.is(isOther ? desk.other : desk.start);
            if (isOther) {
                desk.other = now;
            } else {
                desk.start = now;
            }
            return was ? 1 : 0;
        }

        int step(int a, int b, int c, int d, int e, int f) {
            for (int x : new int[] {a, b, c, d, e, f}) {
                argument(in(x, 1, 9));
            }
            argument(F.of(a, b).compareTo(F.of(c, d)) > 0);
            state(desk.steps.size() < 4);
            change(true);
            Stage s = new Stage();
            s.factor[2] = F.of(a, b);
            s.factor[0] = F.of(c, d);
            s.interest = F.of(e, f);
            desk.steps.add(s);
            return desk.steps.size() - 1;
        }

        int middle(int step, int a, int b) {
            index(isStep(step));
            argument(in(a, 1, 9) && in(b, 1, 9));
            F m = F.of(a, b);
            argument(m.compareTo(desk.steps.get(step).factor[0]) > 0
                    && m.compareTo(desk.steps.get(step).factor[2]) < 0);
            change(true);
            desk.steps.get(step).factor[1] = m;
            return nodesAt(desk.steps.size()).size();
        }

        int rate(int step, int a, int b) {
            index(isStep(step));
            argument(in(a, 1, 9) && in(b, 1, 9));
            change(true);
            desk.steps.get(step).interest = F.of(a, b);
            return desk.steps.get(step).sure().equals(".") ? 0 : 1;
        }

        int pays(int step, int kind, int a, int b) {
            index(isStep(step));
            argument(in(kind, 0, 2) && in(a, 0, 9) && in(b, 1, 9));
            argument(kind != 1 || F.of(a, b).compareTo(F.of(1, 2)) <= 0);
            change(true);
            int was = desk.steps.get(step).payKind;
            desk.steps.get(step).payKind = kind;
            desk.steps.get(step).pay = F.of(a, b);
            return was;
        }

        int beside(int step, int a, int b, int c, int d) {
            index(isStep(step));
            for (int x : new int[] {a, b, c, d}) {
                argument(in(x, 1, 9));
            }
            change(true);
            Stage s = desk.steps.get(step);
            s.side[2] = F.of(a, b);
            s.side[0] = F.of(c, d);
            s.side[1] = s.side[0].plus(s.side[2]).over(F.of(2, 1));
            return s.side[2].compareTo(s.side[0]);
        }

        int unstep() {
            state(!desk.steps.isEmpty());
            for (Paper p : desk.claims) {
                state(p.end != desk.steps.size());
            }
            change(true);
            desk.steps.remove(desk.steps.size() - 1);
            return desk.steps.size();
        }

        int claim(int end, boolean isStop) {
            argument(in(end, 1, desk.steps.size()));
            state(desk.claims.size() < 4);
            if (fault() != -1) {
                refusals++;
                return -9;
            }
            change(true);
            Paper p = new Paper();
            p.signs = new ArrayList<>(slip);
            p.end = end;
            p.mayStop = isStop;
            desk.claims.add(p);
            return desk.claims.size() - 1;
        }

        int wall(int claim, int kind, int a, int b) {
            index(isClaim(claim));
            argument(in(kind, 0, 4) && in(a, 1, 99) && in(b, 1, 9));
            change(true);
            int was = desk.claims.get(claim).wall;
            desk.claims.get(claim).wall = kind;
            desk.claims.get(claim).level = F.of(a, b);
            return was;
        }

        int drop() {
            state(!desk.claims.isEmpty());
            change(true);
            desk.claims.remove(desk.claims.size() - 1);
            return desk.claims.size();
        }

        int book(int claim, int many) {
            index(isClaim(claim));
            argument(in(many, -9, 9));
            change(false);
            int was = desk.claims.get(claim).many;
            desk.claims.get(claim).many = many;
            return was;
        }

        int quotes() {
            int count = 0;
            for (Paper p : desk.claims) {
                if (p.quote != null) {
                    count++;
                }
            }
            return count;
        }

        int quote(int claim, int a, int b) {
            index(isClaim(claim));
            argument(in(a, -99, 99) && in(b, 0, 9));
            change(false);
            desk.claims.get(claim).quote = b == 0 ? null : F.of(a, b);
            return quotes();
        }

        int fee(int a, int b) {
            argument(in(a, 0, 9) && in(b, 1, 99));
            argument(F.of(a, b).compareTo(F.of(1, 2)) <= 0);
            change(false);
            int was = desk.fee.compareTo(F.ZERO) > 0 ? 1 : 0;
            desk.fee = F.of(a, b);
            return was;
        }

        void hold() {
            Paper p = desk.claims.get(desk.sold);
            F wanted = holding(p, desk.ways, true)[0];
            F price = priceAt(desk.ways);
            F change = wanted.less(desk.pieces);
            F off = change.times(price).size().times(desk.fee);
            desk.money = desk.money.less(change.times(price)).less(off);
            desk.fees = desk.fees.plus(off);
            desk.pieces = wanted;
        }

        int sell(int claim) {
            index(isClaim(claim));
            state(!refused(desk.claims.get(claim)));
            change(false);
            desk.sold = claim;
            desk.ways = new ArrayList<>();
            desk.over = false;
            desk.money = worth(desk.claims.get(claim), desk.ways, true);
            desk.pieces = F.ZERO;
            desk.fees = F.ZERO;
            hold();
            return desk.claims.get(claim).end;
        }

        void finish() {
            desk.money = desk.money.plus(desk.pieces.times(priceAt(desk.ways)))
                    .less(due(desk.claims.get(desk.sold), desk.ways));
            desk.pieces = F.ZERO;
            desk.over = true;
        }

        int day(int way) {
            argument(in(way, 0, 2));
            boolean goes = desk.sold >= 0 && !desk.over;
            argument(!goes || desk.steps.get(desk.ways.size()).factor[way] != null);
            state(goes);
            change(false);
            Stage s = desk.steps.get(desk.ways.size());
            desk.ways.add(way);
            desk.money = desk.money.times(s.interest).plus(paidAt(desk.ways).times(desk.pieces));
            if (desk.ways.size() == desk.claims.get(desk.sold).end) {
                finish();
            } else {
                hold();
            }
            return desk.ways.size();
        }

        int stop() {
            state(desk.sold >= 0 && !desk.over);
            state(desk.claims.get(desk.sold).mayStop);
            change(false);
            finish();
            return stops(desk.claims.get(desk.sold), desk.ways) ? 1 : 0;
        }

        int type(int sign) {
            argument(in(sign, 0, 20));
            state(slip.size() < 7);
            slip.add(sign);
            return slip.size();
        }

        int wipe() {
            int was = slip.size();
            slip.clear();
            return was;
        }

        int undo() {
            state(!back.isEmpty());
            desk = back.remove(back.size() - 1);
            return back.size();
        }

        int knock() {
            return ++knocks;
        }

        // ---- the tree

        static int code(List<Integer> ways) {
            int code = 0;
            for (int w : ways) {
                code = code * 3 + w;
            }
            return code;
        }

        List<List<Integer>> nodesAt(int count) {
            List<List<Integer>> nodes = new ArrayList<>();
            nodes.add(new ArrayList<>());
            for (int n = 0; n < count; n++) {
                List<List<Integer>> next = new ArrayList<>();
                for (List<Integer> node : nodes) {
                    for (int w = 0; w < 3; w++) {
                        if (desk.steps.get(n).factor[w] != null) {
                            next.add(with(node, w));
                        }
                    }
                }
                nodes = next;
            }
            return nodes;
        }

        static List<Integer> with(List<Integer> ways, int way) {
            List<Integer> longer = new ArrayList<>(ways);
            longer.add(way);
            return longer;
        }

        List<Integer> find(int step, int code, int most) {
            if (in(step, 0, most)) {
                for (List<Integer> node : nodesAt(step)) {
                    if (code(node) == code) {
                        return node;
                    }
                }
            }
            throw new IndexOutOfBoundsException();
        }

        F fullAt(List<Integer> ways) {
            int n = ways.size() - 1;
            return priceAt(ways.subList(0, n)).times(desk.steps.get(n).factor[ways.get(n)]);
        }

        F paidAt(List<Integer> ways) {
            if (ways.isEmpty()) {
                return F.ZERO;
            }
            Stage s = desk.steps.get(ways.size() - 1);
            F full = fullAt(ways);
            switch (s.payKind) {
                case 1:
                    return full.times(s.pay);
                case 2:
                    return s.pay.compareTo(full) < 0 ? s.pay : F.ZERO;
                default:
                    return F.ZERO;
            }
        }

        F priceAt(List<Integer> ways) {
            return ways.isEmpty() ? desk.start : fullAt(ways).less(paidAt(ways));
        }

        F otherAt(List<Integer> ways) {
            F price = desk.other;
            for (int n = 0; n < ways.size(); n++) {
                price = price.times(desk.steps.get(n).side[ways.get(n)]);
            }
            return price;
        }

        F ofPrices(List<Integer> ways, int what) {
            F sum = F.ZERO;
            F most = desk.start;
            F least = desk.start;
            for (int n = 0; n <= ways.size(); n++) {
                F price = priceAt(ways.subList(0, n));
                sum = sum.plus(price);
                most = most.max(price);
                least = least.min(price);
            }
            return what == 1 ? sum.over(F.of(ways.size() + 1, 1)) : what == 2 ? most : least;
        }

        F priceWhat(List<Integer> ways, int what) {
            switch (what) {
                case 0:
                    return priceAt(ways);
                case 4:
                    return otherAt(ways);
                case 5:
                    return paidAt(ways);
                default:
                    return ofPrices(ways, what);
            }
        }

        String price(int step, int code, int what) {
            List<Integer> node = find(step, code, desk.steps.size());
            argument(in(what, 0, 5));
            return priceWhat(node, what).toString();
        }

        int nodes(int step) {
            index(in(step, 0, desk.steps.size()));
            return nodesAt(step).size();
        }

        String prices(int step, boolean isMany) {
            index(in(step, 0, desk.steps.size()));
            TreeMap<F, Integer> found = new TreeMap<>();
            for (List<Integer> node : nodesAt(step)) {
                found.merge(priceAt(node), 1, Integer::sum);
            }
            StringBuilder text = new StringBuilder();
            for (F price : found.keySet()) {
                text.append(text.length() == 0 ? "" : " ").append(price);
                text.append(isMany ? "x" + found.get(price) : "");
            }
            return text.toString();
        }

        String sure(int step) {
            index(isStep(step));
            return desk.steps.get(step).sure();
        }

        String weight(int step, int way) {
            index(isStep(step));
            argument(way == 0 || way == 2);
            Stage s = desk.steps.get(step);
            return s.factor[1] != null || !s.sure().equals(".") ? "." : s.weight(way).toString();
        }

        int unfair() {
            for (int n = 0; n < desk.steps.size(); n++) {
                Stage s = desk.steps.get(n);
                if (s.factor[1] == null && s.sure().equals(".")
                        && !s.weight(2).times(s.side[2]).plus(s.weight(0).times(s.side[0])).is(s.interest)) {
                    return n;
                }
            }
            return -1;
        }

        String ofStep(int step, int what) {
            index(isStep(step));
            argument(in(what, 0, 7));
            Stage s = desk.steps.get(step);
            switch (what) {
                case 0:
                    return s.factor[2].toString();
                case 1:
                    return s.factor[1] == null ? "." : s.factor[1].toString();
                case 2:
                    return s.factor[0].toString();
                case 3:
                    return s.interest.toString();
                case 4:
                    return s.side[2].toString();
                case 5:
                    return s.side[1].toString();
                case 6:
                    return s.side[0].toString();
                default:
                    return s.payKind == 0 ? "0" : s.pay + (s.payKind == 1 ? "s" : "");
            }
        }

        // ---- claims

        boolean refused(Paper p) {
            for (int n = 0; n < p.end; n++) {
                if (!desk.steps.get(n).sure().equals(".")) {
                    return true;
                }
            }
            return false;
        }

        F due(Paper p, List<Integer> ways) {
            if (p.wall != 0) {
                boolean touched = false;
                for (int n = 0; n <= ways.size(); n++) {
                    int order = priceAt(ways.subList(0, n)).compareTo(p.level);
                    touched |= p.wall <= 2 ? order >= 0 : order <= 0;
                }
                boolean wakes = p.wall == 1 || p.wall == 3;
                if (wakes && !touched || !wakes && touched) {
                    return F.ZERO;
                }
            }
            List<F> heap = new ArrayList<>();
            for (int sign : p.signs) {
                if (sign < 10) {
                    heap.add(F.of(sign, 1));
                } else if (sign < 15) {
                    heap.add(priceWhat(ways, sign - 10));
                } else if (sign == 20) {
                    heap.add(heap.remove(heap.size() - 1).max(F.ZERO));
                } else {
                    F two = heap.remove(heap.size() - 1);
                    F one = heap.remove(heap.size() - 1);
                    heap.add(sign == 15 ? one.plus(two) : sign == 16 ? one.less(two)
                            : sign == 17 ? one.times(two) : sign == 18 ? one.max(two) : one.min(two));
                }
            }
            return heap.get(0);
        }

        /** GO ON, and the i and j that it is of. */
        Object[] goOn(Paper p, List<Integer> ways, boolean isHigh) {
            Stage s = desk.steps.get(ways.size());
            F[] next = new F[3];
            for (int w = 0; w < 3; w++) {
                if (s.factor[w] != null) {
                    next[w] = worth(p, with(ways, w), isHigh);
                }
            }
            Object[] found = null;
            for (int i = 0; i < 3; i++) {
                for (int j = i + 1; j < 3; j++) {
                    if (s.factor[i] == null || s.factor[j] == null || s.factor[i].compareTo(s.interest) > 0
                            || s.factor[j].compareTo(s.interest) < 0) {
                        continue;
                    }
                    F between = next[i].times(s.factor[j].less(s.interest))
                            .plus(next[j].times(s.interest.less(s.factor[i])))
                            .over(s.factor[j].less(s.factor[i]).times(s.interest));
                    if (found == null || (isHigh ? between.compareTo((F) found[0]) > 0
                            : between.compareTo((F) found[0]) < 0)) {
                        found = new Object[] {between, i, j, next[i], next[j]};
                    }
                }
            }
            return found;
        }

        F worth(Paper p, List<Integer> ways, boolean isHigh) {
            if (ways.size() == p.end) {
                return due(p, ways);
            }
            F go = (F) goOn(p, ways, isHigh)[0];
            return p.mayStop ? go.max(due(p, ways)) : go;
        }

        F[] holding(Paper p, List<Integer> ways, boolean isHigh) {
            Object[] go = goOn(p, ways, isHigh);
            F fullI = fullAt(with(ways, (Integer) go[1]));
            F fullJ = fullAt(with(ways, (Integer) go[2]));
            F pieces = ((F) go[4]).less((F) go[3]).over(fullJ.less(fullI));
            F money = ((F) go[3]).less(pieces.times(fullI)).over(desk.steps.get(ways.size()).interest);
            return new F[] {pieces, money, pieces.times(priceAt(ways)).plus(money)};
        }

        boolean stops(Paper p, List<Integer> ways) {
            return p.mayStop && due(p, ways).compareTo((F) goOn(p, ways, false)[0]) >= 0;
        }

        String due(int claim, int step, int code) {
            index(isClaim(claim));
            Paper p = desk.claims.get(claim);
            return due(p, find(step, code, p.end)).toString();
        }

        String worth(int claim, int step, int code, boolean isHigh) {
            index(isClaim(claim));
            Paper p = desk.claims.get(claim);
            List<Integer> node = find(step, code, p.end);
            state(!refused(p));
            return worth(p, node, isHigh).toString();
        }

        String holding(int claim, int step, int code, boolean isHigh, int what) {
            index(isClaim(claim));
            Paper p = desk.claims.get(claim);
            List<Integer> node = find(step, code, p.end - 1);
            argument(in(what, 0, 2));
            state(!refused(p));
            return holding(p, node, isHigh)[what].toString();
        }

        boolean stops(int claim, int step, int code) {
            index(isClaim(claim));
            Paper p = desk.claims.get(claim);
            List<Integer> node = find(step, code, p.end - 1);
            state(!refused(p));
            return stops(p, node);
        }

        String best(int claim) {
            index(isClaim(claim));
            Paper p = desk.claims.get(claim);
            state(!refused(p));
            StringBuilder text = new StringBuilder();
            for (int level = 0; level < p.end; level++) {
                for (List<Integer> node : nodesAt(level)) {
                    boolean isTold = stops(p, node);
                    for (int n = 0; n < level && isTold; n++) {
                        isTold = !stops(p, node.subList(0, n));
                    }
                    if (isTold) {
                        text.append(text.length() == 0 ? "" : " ").append(level + ":" + code(node));
                    }
                }
            }
            return text.toString();
        }

        String span(int claim) {
            index(isClaim(claim));
            Paper p = desk.claims.get(claim);
            state(!refused(p));
            List<Integer> first = new ArrayList<>();
            return worth(p, first, true).less(worth(p, first, false)).toString();
        }

        int implied(int claim, int a, int b) {
            index(isClaim(claim));
            argument(in(a, -99, 99) && in(b, 1, 9));
            Desk kept = desk;
            for (int n = 0; n <= 20; n++) {
                desk = kept.copy();
                for (Stage s : desk.steps) {
                    s.factor[2] = s.factor[2].plus(F.of(n, 10));
                }
                Paper p = desk.claims.get(claim);
                boolean isIt = !refused(p) && worth(p, new ArrayList<>(), true).compareTo(F.of(a, b)) >= 0;
                desk = kept;
                if (isIt) {
                    return n;
                }
            }
            return -1;
        }

        String law(int claim, int other) {
            index(isClaim(claim) && isClaim(other));
            Paper p = desk.claims.get(claim);
            Paper q = desk.claims.get(other);
            if (p.end != q.end || p.mayStop || q.mayStop || p.wall != 0 || q.wall != 0) {
                return ".";
            }
            List<List<Integer>> nodes = nodesAt(p.end);
            F c = F.ZERO;
            for (List<Integer> one : nodes) {
                for (List<Integer> two : nodes) {
                    if (!priceAt(one).is(priceAt(two))) {
                        c = due(p, two).less(due(q, two)).less(due(p, one)).plus(due(q, one))
                                .over(priceAt(two).less(priceAt(one)));
                    }
                }
            }
            F d = due(p, nodes.get(0)).less(due(q, nodes.get(0))).less(c.times(priceAt(nodes.get(0))));
            for (List<Integer> one : nodes) {
                if (!due(p, one).less(due(q, one)).is(c.times(priceAt(one)).plus(d))) {
                    return ".";
                }
            }
            return c + " " + d;
        }

        F bookWorth() {
            F sum = F.ZERO;
            for (Paper p : desk.claims) {
                if (p.many != 0) {
                    sum = sum.plus(worth(p, new ArrayList<>(), p.many > 0).times(F.of(p.many, 1)));
                }
            }
            return sum;
        }

        String worthOf(int a, int b, boolean isMove) {
            argument(in(a, 1, 99) && in(b, 1, 9));
            for (Paper p : desk.claims) {
                state(p.many == 0 || !refused(p));
            }
            F now = bookWorth();
            F kept = desk.start;
            desk.start = F.of(a, b);
            F then = bookWorth();
            desk.start = kept;
            return (isMove ? then.less(now) : then).toString();
        }

        String least(int end) {
            index(in(end, 0, desk.steps.size()));
            F least = null;
            for (List<Integer> node : nodesAt(end)) {
                F sum = F.ZERO;
                for (Paper p : desk.claims) {
                    if (p.end == end) {
                        sum = sum.plus(due(p, node).times(F.of(p.many, 1)));
                    }
                }
                least = least == null ? sum : least.min(sum);
            }
            return least.toString();
        }

        String trade() {
            for (int n = 0; n < desk.claims.size(); n++) {
                Paper p = desk.claims.get(n);
                if (p.quote == null || refused(p)) {
                    continue;
                }
                F high = worth(p, new ArrayList<>(), true);
                F low = worth(p, new ArrayList<>(), false);
                if (p.quote.compareTo(high) > 0) {
                    return n + "- " + p.quote.less(high);
                }
                if (p.quote.compareTo(low) < 0) {
                    return n + "+ " + low.less(p.quote);
                }
            }
            return ".";
        }

        String played(int what) {
            argument(in(what, 0, 4));
            if (desk.sold < 0) {
                return ".";
            }
            switch (what) {
                case 0:
                    return desk.money.toString();
                case 1:
                    return desk.pieces.toString();
                case 2:
                    return priceAt(desk.ways).toString();
                case 3:
                    return desk.over ? desk.money.toString()
                            : desk.money.less(holding(desk.claims.get(desk.sold), desk.ways, true)[1]).toString();
                default:
                    return desk.fees.toString();
            }
        }

        int ofClaim(int claim, int what) {
            index(isClaim(claim));
            argument(in(what, 0, 6));
            Paper p = desk.claims.get(claim);
            int[] all = {p.end, p.mayStop ? 1 : 0, p.wall, p.many, p.quote != null ? 1 : 0,
                refused(p) ? 1 : 0, p.signs.size()};
            return all[what];
        }

        String told(int claim) {
            index(isClaim(claim));
            StringBuilder text = new StringBuilder();
            for (int sign : desk.claims.get(claim).signs) {
                text.append("0123456789saxnt+-*vwp".charAt(sign));
            }
            return text.toString();
        }

        int fault() {
            int count = 0;
            for (int n = 0; n < slip.size(); n++) {
                int sign = slip.get(n);
                int taken = sign < 15 ? 0 : sign < 20 ? 2 : 1;
                if (count < taken) {
                    return n;
                }
                count += 1 - taken;
            }
            return count == 1 ? -1 : slip.size();
        }

        int house(int what) {
            argument(in(what, 0, 8));
            int sure = -1;
            for (int n = desk.steps.size() - 1; n >= 0; n--) {
                if (!desk.steps.get(n).sure().equals(".")) {
                    sure = n;
                }
            }
            int[] all = {desk.steps.size(), desk.claims.size(), quotes(), desk.sold < 0 ? 0 : desk.over ? 2 : 1,
                desk.sold < 0 ? -1 : desk.ways.size(), back.size(), refusals, knocks, sure};
            return all[what];
        }

        boolean isSound() {
            for (Paper p : desk.claims) {
                if (refused(p)) {
                    continue;
                }
                boolean isCertain = true;
                for (int n = 0; n < p.end; n++) {
                    isCertain &= desk.steps.get(n).factor[1] == null;
                }
                for (int level = 0; level < p.end; level++) {
                    for (List<Integer> node : nodesAt(level)) {
                        if (!isSoundAt(p, node, isCertain)) {
                            return false;
                        }
                    }
                }
                if (isCertain && !p.mayStop) {
                    F sum = F.ZERO;
                    for (List<Integer> node : nodesAt(p.end)) {
                        F part = due(p, node);
                        for (int n = 0; n < p.end; n++) {
                            Stage s = desk.steps.get(n);
                            part = part.times(s.weight(node.get(n))).over(s.interest);
                        }
                        sum = sum.plus(part);
                    }
                    if (!sum.is(worth(p, new ArrayList<>(), true))) {
                        return false;
                    }
                }
            }
            return true;
        }

        boolean isSoundAt(Paper p, List<Integer> node, boolean isCertain) {
            F high = worth(p, node, true);
            F low = worth(p, node, false);
            if (low.compareTo(high) > 0 || isCertain && !low.is(high)
                    || p.mayStop && due(p, node).compareTo(low) > 0) {
                return false;
            }
            Stage s = desk.steps.get(node.size());
            for (int n = 0; n < 2; n++) {
                F[] h = holding(p, node, n == 0);
                if (!h[2].is((F) goOn(p, node, n == 0)[0])) {
                    return false;
                }
                for (int w = 0; w < 3; w++) {
                    if (s.factor[w] != null) {
                        int order = h[0].times(fullAt(with(node, w))).plus(h[1].times(s.interest))
                                .compareTo(worth(p, with(node, w), n == 0));
                        if (n == 0 ? order < 0 : order > 0) {
                            return false;
                        }
                    }
                }
            }
            return true;
        }

        long d;

        void fold(long v) {
            d = d * 31 + v;
        }

        void fold(String text) {
            fold(text.length());
            for (char c : text.toCharArray()) {
                fold(c);
            }
        }

        long digest() {
            d = 6900;
            for (int n = 0; n < 9; n++) {
                fold(house(n));
            }
            for (int s = 0; s < desk.steps.size(); s++) {
                for (int n = 0; n < 8; n++) {
                    fold(ofStep(s, n));
                }
                fold(sure(s));
                fold(weight(s, 2));
            }
            fold(prices(desk.steps.size(), true));
            fold(unfair());
            for (int c = 0; c < desk.claims.size(); c++) {
                fold(told(c));
                for (int n = 0; n < 7; n++) {
                    fold(ofClaim(c, n));
                }
                fold(due(c, 0, 0));
                if (!refused(desk.claims.get(c))) {
                    fold(worth(c, 0, 0, true));
                    fold(worth(c, 0, 0, false));
                    fold(holding(c, 0, 0, true, 0));
                    fold(holding(c, 0, 0, true, 1));
                    fold(holding(c, 0, 0, false, 0));
                    fold(holding(c, 0, 0, false, 1));
                    fold(best(c));
                }
            }
            fold(trade());
            for (int n = 0; n < 5; n++) {
                fold(played(n));
            }
            fold(fault());
            fold(isSound() ? 1 : 0);
            return d;
        }
    }

    // ---- runs

    private static Treeward x;
    private static Model m;
    private static int calls;
    private static StringBuilder history;

    private static String check(String told, Call real, Call model) {
        String got = run(real);
        String want = run(model);
        calls++;
        history.append("\n  ").append(told).append(" = ").append(want);
        if (!got.equals(want)) {
            wrong++;
            if (wrong <= 3) {
                System.out.println("answered " + got + ", due is " + want + history);
            }
        }
        return want;
    }

    private static void build(int kind) {
        int[] v = new int[7];
        for (int n = 0; n < 7; n++) {
            v[n] = near(1, 9);
        }
        int s = near(0, m.desk.steps.size() - 1);
        switch (kind) {
            case 0: {
                boolean isOther = pick(2) == 0;
                int a = near(1, 99);
                check("start " + isOther + " " + a + " " + v[0], () -> x.start(isOther, a, v[0]),
                        () -> m.start(isOther, a, v[0]));
                break;
            }
            case 1: {
                boolean isWild = pick(4) == 0;
                int a = isWild ? v[0] : between(4, 9);
                int b = isWild ? v[1] : between(2, 4);
                int c = isWild ? v[2] : between(1, 5);
                int d = isWild ? v[3] : between(5, 9);
                int e = isWild ? v[4] : between(7, 9);
                int f = isWild ? v[5] : between(7, 9);
                check("step " + a + " " + b + " " + c + " " + d + " " + e + " " + f,
                        () -> x.step(a, b, c, d, e, f), () -> m.step(a, b, c, d, e, f));
                break;
            }
            case 2:
                check("middle " + s + " " + v[0] + " " + v[1], () -> x.middle(s, v[0], v[1]),
                        () -> m.middle(s, v[0], v[1]));
                break;
            case 3: {
                int e = pick(3) == 0 ? v[0] : between(7, 9);
                int f = pick(3) == 0 ? v[1] : between(6, 9);
                check("rate " + s + " " + e + " " + f, () -> x.rate(s, e, f), () -> m.rate(s, e, f));
                break;
            }
            case 4: {
                int k = near(0, 2);
                int a = pick(2) == 0 ? near(0, 9) : near(0, 3);
                check("pays " + s + " " + k + " " + a + " " + v[0], () -> x.pays(s, k, a, v[0]),
                        () -> m.pays(s, k, a, v[0]));
                break;
            }
            case 5:
                check("beside " + s + " " + v[0] + " " + v[1] + " " + v[2] + " " + v[3],
                        () -> x.beside(s, v[0], v[1], v[2], v[3]), () -> m.beside(s, v[0], v[1], v[2], v[3]));
                break;
            case 6:
                check("unstep", () -> x.unstep(), () -> m.unstep());
                break;
            case 7: {
                if (pick(4) != 0) {
                    typeRow();
                }
                int end = near(1, m.desk.steps.size());
                boolean isStop = pick(2) == 0;
                check("claim " + end + " " + isStop, () -> x.claim(end, isStop), () -> m.claim(end, isStop));
                break;
            }
            case 8: {
                int c = near(0, m.desk.claims.size() - 1);
                int k = near(0, 4);
                int a = near(1, 99);
                check("wall " + c + " " + k + " " + a + " " + v[0], () -> x.wall(c, k, a, v[0]),
                        () -> m.wall(c, k, a, v[0]));
                break;
            }
            default:
                check("drop", () -> x.drop(), () -> m.drop());
                break;
        }
    }

    /** Types a row that mostly has no fault. */
    private static void typeRow() {
        check("wipe", () -> x.wipe(), () -> m.wipe());
        int lying = 0;
        int length = between(1, 7);
        for (int n = 0; n < length; n++) {
            int left = length - n;
            int sign;
            if (lying < 1 || lying == 1 && left > 1 && pick(4) != 0 || pick(40) == 0) {
                sign = pick(3) == 0 ? pick(10) : between(10, 14);
            } else if (lying >= 2 && (lying >= left || pick(2) == 0)) {
                sign = between(15, 19);
            } else if (lying >= 1 && (left == 1 || pick(3) == 0)) {
                sign = 20;
            } else {
                sign = between(10, 14);
            }
            lying += sign < 15 ? 1 : sign < 20 ? -1 : 0;
            int typed = sign;
            check("type " + typed, () -> x.type(typed), () -> m.type(typed));
        }
    }

    private static void deal(int kind) {
        int c = near(0, m.desk.claims.size() - 1);
        switch (kind) {
            case 0: {
                int many = near(-9, 9);
                check("book " + c + " " + many, () -> x.book(c, many), () -> m.book(c, many));
                break;
            }
            case 1: {
                int a = near(-99, 99);
                int b = near(0, 9);
                check("quote " + c + " " + a + " " + b, () -> x.quote(c, a, b), () -> m.quote(c, a, b));
                break;
            }
            case 2: {
                int a = near(0, 9);
                int b = near(1, 99);
                check("fee " + a + " " + b, () -> x.fee(a, b), () -> m.fee(a, b));
                break;
            }
            case 3:
                check("sell " + c, () -> x.sell(c), () -> m.sell(c));
                break;
            case 4: {
                int way = near(0, 2);
                check("day " + way, () -> x.day(way), () -> m.day(way));
                break;
            }
            case 5:
                check("stop", () -> x.stop(), () -> m.stop());
                break;
            case 6: {
                int sign = near(0, 20);
                check("type " + sign, () -> x.type(sign), () -> m.type(sign));
                break;
            }
            case 7:
                check("wipe", () -> x.wipe(), () -> m.wipe());
                break;
            case 8:
                check("undo", () -> x.undo(), () -> m.undo());
                break;
            default:
                check("knock", () -> x.knock(), () -> m.knock());
                break;
        }
    }

    private static void askTree(int kind) {
        int s = near(0, m.desk.steps.size());
        int code = near(0, (int) Math.pow(3, Math.max(0, Math.min(4, s))) - 1);
        int what = near(0, 7);
        switch (kind) {
            case 0:
                check("price " + s + " " + code + " " + what % 6, () -> x.price(s, code, what % 6),
                        () -> m.price(s, code, what % 6));
                break;
            case 1:
                check("nodes " + s, () -> x.nodes(s), () -> m.nodes(s));
                break;
            case 2: {
                boolean isMany = pick(2) == 0;
                check("prices " + s + " " + isMany, () -> x.prices(s, isMany), () -> m.prices(s, isMany));
                break;
            }
            case 3:
                check("sure " + s, () -> x.sure(s), () -> m.sure(s));
                break;
            case 4: {
                int way = near(0, 2);
                check("weight " + s + " " + way, () -> x.weight(s, way), () -> m.weight(s, way));
                break;
            }
            case 5:
                check("unfair", () -> x.unfair(), () -> m.unfair());
                break;
            default:
                check("ofStep " + s + " " + what, () -> x.ofStep(s, what), () -> m.ofStep(s, what));
                break;
        }
    }

    private static void askClaims(int kind) {
        int c = near(0, m.desk.claims.size() - 1);
        int end = c >= 0 && c < m.desk.claims.size() ? m.desk.claims.get(c).end : 0;
        int s = near(0, kind == 2 || kind == 3 ? end - 1 : end);
        int code = near(0, (int) Math.pow(3, Math.max(0, Math.min(4, s))) - 1);
        boolean isHigh = pick(2) == 0;
        int what = near(0, 2);
        int a = pick(3) == 0 ? near(-99, 99) : between(0, 30);
        int b = near(1, 9);
        int other = near(0, m.desk.claims.size() - 1);
        switch (kind) {
            case 0:
                check("due " + c + " " + s + " " + code, () -> x.due(c, s, code), () -> m.due(c, s, code));
                break;
            case 1:
                check("worth " + c + " " + s + " " + code + " " + isHigh, () -> x.worth(c, s, code, isHigh),
                        () -> m.worth(c, s, code, isHigh));
                break;
            case 2:
                check("holding " + c + " " + s + " " + code + " " + isHigh + " " + what,
                        () -> x.holding(c, s, code, isHigh, what), () -> m.holding(c, s, code, isHigh, what));
                break;
            case 3:
                check("stops " + c + " " + s + " " + code, () -> x.stops(c, s, code), () -> m.stops(c, s, code));
                break;
            case 4:
                check("best " + c, () -> x.best(c), () -> m.best(c));
                break;
            case 5:
                check("span " + c, () -> x.span(c), () -> m.span(c));
                break;
            case 6:
                check("implied " + c + " " + a + " " + b, () -> x.implied(c, a, b), () -> m.implied(c, a, b));
                break;
            default:
                check("law " + c + " " + other, () -> x.law(c, other), () -> m.law(c, other));
                break;
        }
    }

    private static void askBook(int kind) {
        int c = near(0, m.desk.claims.size() - 1);
        int a = near(1, 99);
        int b = near(1, 9);
        boolean isMove = pick(2) == 0;
        int what = near(0, 8);
        switch (kind) {
            case 0:
                check("worthOf " + a + " " + b + " " + isMove, () -> x.worthOf(a, b, isMove),
                        () -> m.worthOf(a, b, isMove));
                break;
            case 1: {
                int s = near(0, m.desk.steps.size());
                check("least " + s, () -> x.least(s), () -> m.least(s));
                break;
            }
            case 2:
                check("trade", () -> x.trade(), () -> m.trade());
                break;
            case 3:
                check("played " + what % 5, () -> x.played(what % 5), () -> m.played(what % 5));
                break;
            case 4:
                check("ofClaim " + c + " " + what % 7, () -> x.ofClaim(c, what % 7), () -> m.ofClaim(c, what % 7));
                break;
            case 5:
                check("told " + c, () -> x.told(c), () -> m.told(c));
                break;
            case 6:
                check("fault", () -> x.fault(), () -> m.fault());
                break;
            case 7:
                check("house " + what, () -> x.house(what), () -> m.house(what));
                break;
            case 8:
                check("isSound", () -> x.isSound(), () -> m.isSound());
                break;
            default:
                check("digest", () -> x.digest(), () -> m.digest());
                break;
        }
    }

    private static void askAll() {
        for (int n = 0; n < 5; n++) {
            int what = n;
            check("played " + what, () -> x.played(what), () -> m.played(what));
        }
        check("digest", () -> x.digest(), () -> m.digest());
    }

    private static int large() {
        return between(5, 9);
    }

    /** A tree of four steps of three ways and large lower numbers, and claims of products. */
    private static void heavyRun() {
        int[][] rows = {{10, 10, 17, 10, 17, 10, 17}, {10, 14, 17, 11, 17, 14, 17},
            {11, 12, 17, 13, 17, 10, 17}, {14, 14, 17, 14, 17, 14, 17}, {10, 11, 17, 12, 13, 17, 16},
            {10, 14, 16, 11, 13, 17, 17}, {9, 10, 17, 14, 15, 11, 17}};
        int[] start = {between(80, 99), large(), between(80, 99), large()};
        check("start", () -> x.start(false, start[0], start[1]), () -> m.start(false, start[0], start[1]));
        check("start", () -> x.start(true, start[2], start[3]), () -> m.start(true, start[2], start[3]));
        for (int n = 0; n < 4; n++) {
            int s = n;
            while (m.desk.steps.size() <= s) {
                int[] v = {between(1, 9), large(), between(1, 9), large(), large(), large()};
                if (v[0] * v[3] > v[2] * v[1]) {
                    check("step", () -> x.step(v[0], v[1], v[2], v[3], v[4], v[5]),
                            () -> m.step(v[0], v[1], v[2], v[3], v[4], v[5]));
                }
            }
            for (int tries = 0; tries < 30 && m.desk.steps.get(s).factor[1] == null; tries++) {
                int a = between(1, 9);
                int b = large();
                check("middle " + a + " " + b, () -> x.middle(s, a, b), () -> m.middle(s, a, b));
            }
            int kind = between(1, 2);
            int a = kind == 1 ? between(1, 2) : between(1, 9);
            int b = large();
            check("pays", () -> x.pays(s, kind, a, b), () -> m.pays(s, kind, a, b));
            int[] w = {large(), large(), large(), large()};
            check("beside", () -> x.beside(s, w[0], w[1], w[2], w[3]), () -> m.beside(s, w[0], w[1], w[2], w[3]));
            for (int tries = 0; tries < 30 && !m.desk.steps.get(s).sure().equals("."); tries++) {
                int e = large();
                int f = large();
                check("rate", () -> x.rate(s, e, f), () -> m.rate(s, e, f));
            }
        }
        for (int n = 0; n < 4; n++) {
            check("wipe", () -> x.wipe(), () -> m.wipe());
            for (int sign : rows[pick(rows.length)]) {
                check("type " + sign, () -> x.type(sign), () -> m.type(sign));
            }
            int c = n;
            int end = pick(3) == 0 ? 3 : 4;
            boolean isStop = pick(2) == 0;
            int many = between(-9, 9);
            check("claim", () -> x.claim(end, isStop), () -> m.claim(end, isStop));
            check("book", () -> x.book(c, many), () -> m.book(c, many));
            check("quote", () -> x.quote(c, 97, 9), () -> m.quote(c, 97, 9));
            for (int k = 0; k < 3; k++) {
                askClaims(k);
                askClaims(5 + k);
            }
        }
        check("fee", () -> x.fee(8, 97), () -> m.fee(8, 97));
        check("least", () -> x.least(4), () -> m.least(4));
        check("worthOf", () -> x.worthOf(97, 8, true), () -> m.worthOf(97, 8, true));
        int sold = between(0, 3);
        check("sell", () -> x.sell(sold), () -> m.sell(sold));
        for (int n = 0; n < 4; n++) {
            int way = between(0, 2);
            int other = 89 + n;
            check("day " + way, () -> x.day(way), () -> m.day(way));
            check("fee", () -> x.fee(7, other), () -> m.fee(7, other));
            for (int k = 0; k < 5; k++) {
                int what = k;
                check("played " + what, () -> x.played(what), () -> m.played(what));
            }
        }
        askAll();
    }

    public static void main(String[] args) {
        int runs = args.length > 0 ? Integer.parseInt(args[0]) : 260;
        int first = args.length > 1 ? Integer.parseInt(args[1]) : 1;
        long all = 0;
        for (int run = first; run < first + runs && wrong == 0; run++) {
            seed = run * 7919L + 17;
            x = new Treeward();
            m = new Model();
            calls = 0;
            history = new StringBuilder("\nrun " + run);
            int steps = between(0, run % 5 == 0 ? 4 : 3);
            for (int n = 0; n < steps; n++) {
                build(1);
                if (pick(3) == 0) {
                    build(2);
                }
                if (pick(3) == 0) {
                    build(4);
                }
                if (pick(3) == 0) {
                    build(5);
                }
            }
            while (calls < 150 && wrong == 0) {
                switch (pick(12)) {
                    case 0:
                        build(pick(10));
                        break;
                    case 1:
                        build(pick(3) == 0 ? 8 : 7);
                        break;
                    case 2:
                    case 3:
                    case 4:
                        deal(pick(10));
                        break;
                    case 5:
                        deal(4);
                        break;
                    case 6:
                        askTree(pick(7));
                        break;
                    case 7:
                    case 8:
                    case 9:
                        askClaims(pick(8));
                        break;
                    default:
                        askBook(pick(10));
                        break;
                }
            }
            askAll();
            all += calls;
        }
        for (int run = first; run < first + Math.max(1, runs / 20) && wrong == 0; run++) {
            seed = run * 104729L + 5;
            x = new Treeward();
            m = new Model();
            calls = 0;
            history = new StringBuilder("\nheavy run " + run);
            heavyRun();
            all += calls;
        }
        System.out.println(wrong == 0 ? all + " answers are like the model's" : "not like the model");
        if (wrong != 0) {
            System.exit(1);
        }
    }
}
