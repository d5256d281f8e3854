import java.util.Arrays;

/**
 * A desk on which claims on a stock are written, on a tree of fractions.
 *
 * All numbers of a tree are held as whole numbers over one common lower number, so that sums and
 * comparisons need no lowest terms; these are made only where a fraction is told. All rows are
 * made in constructors and used again.
 */
public final class Treeward {
    private static final int NONE = -1;
    private static final int REFUSED = -9;
    private static final int MOST_STEPS = 4;
    private static final int MOST_CLAIMS = 4;
    private static final int MOST_SIGNS = 7;
    private static final int MOST_UNDONE = 8;
    private static final int MOST_MORE = 20;
    private static final int DIGEST_START = 6900;

    private static final int DOWN = 0;
    private static final int MIDDLE = 1;
    private static final int UP = 2;
    private static final int WAYS = 3;

    private static final int PAYS_SHARE = 1;
    private static final int PAYS_AMOUNT = 2;

    /** The first node of each level; a node's number is that of its level's first and its code. */
    private static final int[] FIRST = {0, 1, 4, 13, 40, 121};
    private static final int[] POWER_OF_THREE = {1, 3, 9, 27, 81};
    private static final int NODES = 121;
    private static final int LAST_NODES = 81;

    /** The pairs of ways between which interest may lie, in the order in which ties are broken. */
    private static final int[] PAIR_LOWER = {0, 0, 1};
    private static final int[] PAIR_UPPER = {1, 2, 2};
    private static final int PAIRS = 3;
    private static final int OUTER_PAIR = 1;

    private static final String SIGNS = "0123456789saxnt+-*vwp";
    private static final int SIGN_PRICE = 10;
    private static final int SIGN_MEAN = 11;
    private static final int SIGN_GREATEST = 12;
    private static final int SIGN_LEAST = 13;
    private static final int SIGN_OTHER = 14;
    private static final int SIGN_ADD = 15;
    private static final int SIGN_LESS = 16;
    private static final int SIGN_TIMES = 17;
    private static final int SIGN_GREATER = 18;
    private static final int SIGN_POSITIVE = 20;

    private static final int BASE = 1000000000;
    private static final int TOP_PLACE = 100000000;
    /** Rooms, in digits to BASE, well above what the document's limits can fill. */
    private static final int PRICE_ROOM = 6;
    private static final int TABLE_ROOM = 20;
    private static final int WIDE_ROOM = 90;
    /** Far more rounds than the lowest terms of two numbers that fill a room can take. */
    private static final int MOST_ROUNDS = 100000;

    private final State state;
    private final State[] earlier;
    private int earlierFirst;
    private int earlierCount;
    private final int[] slip;
    private int slipSize;
    private int knocks;
    private int refusals;
    private final Tree tree;
    private final Table[] table;
    private final Tree otherTree;
    private final Table otherTable;
    private final Heap heap;
    private final Play play;
    private final Reckoner reckoner;
    private final Ratio answer;
    private final Ratio second;
    private final Part part;
    private final StringBuilder text;

    public Treeward() {
        state = new State();
        earlier = new State[MOST_UNDONE];
        for (int n = 0; n < MOST_UNDONE; n++) {
            earlier[n] = new State();
        }
        earlierFirst = 0;
        earlierCount = 0;
        slip = new int[MOST_SIGNS];
        slipSize = 0;
        knocks = 0;
        refusals = 0;
        tree = new Tree();
        table = new Table[MOST_CLAIMS];
        for (int n = 0; n < MOST_CLAIMS; n++) {
            table[n] = new Table();
        }
        otherTree = new Tree();
        otherTable = new Table();
        heap = new Heap();
        play = new Play();
        reckoner = new Reckoner();
        answer = new Ratio();
        second = new Ratio();
        part = new Part(0);
        text = new StringBuilder();
    }

    // ---- the tree

    public int start(boolean isOther, int a, int b) throws IllegalArgumentException {
        if (!isWithin(a, 1, 99) || !isWithin(b, 1, 9)) {
            throw new IllegalArgumentException();
        }
        part.put(a, b);
        boolean wasAnother = (isOther ? state.sideStart : state.start).order(part) != 0;
        beginTreeChange();
        (isOther ? state.sideStart : state.start).copyPart(part);
        return wasAnother ? 1 : 0;
    }

    public int step(int a, int b, int c, int d, int e, int f)
            throws IllegalArgumentException, IllegalStateException {
        if (!isDigit(a) || !isDigit(b) || !isDigit(c) || !isDigit(d) || !isDigit(e) || !isDigit(f)
                || a * d <= c * b) {
            throw new IllegalArgumentException();
        }
        if (state.steps >= MOST_STEPS) {
            throw new IllegalStateException();
        }
        beginTreeChange();
        Step made = state.step[state.steps];
        made.begin();
        made.factor[UP].put(a, b);
        made.factor[DOWN].put(c, d);
        made.interest.put(e, f);
        state.steps++;
        return state.steps - 1;
    }

    public int middle(int step, int a, int b)
            throws IndexOutOfBoundsException, IllegalArgumentException {
        if (!hasStep(step)) {
            throw new IndexOutOfBoundsException();
        }
        if (!isDigit(a) || !isDigit(b)) {
            throw new IllegalArgumentException();
        }
        Step changed = state.step[step];
        part.put(a, b);
        if (part.order(changed.factor[DOWN]) <= 0 || part.order(changed.factor[UP]) >= 0) {
            throw new IllegalArgumentException();
        }
        beginTreeChange();
        changed.factor[MIDDLE].copyPart(part);
        changed.hasMiddle = true;
        return state.nodesBehind(state.steps);
    }

    public int rate(int step, int a, int b)
            throws IndexOutOfBoundsException, IllegalArgumentException {
        if (!hasStep(step)) {
            throw new IndexOutOfBoundsException();
        }
        if (!isDigit(a) || !isDigit(b)) {
            throw new IllegalArgumentException();
        }
        beginTreeChange();
        state.step[step].interest.put(a, b);
        return state.step[step].hasSureWin() ? 1 : 0;
    }

    public int pays(int step, int kind, int a, int b)
            throws IndexOutOfBoundsException, IllegalArgumentException {
        if (!hasStep(step)) {
            throw new IndexOutOfBoundsException();
        }
        if (!isWithin(kind, 0, 2) || !isWithin(a, 0, 9) || !isDigit(b)
                || kind == PAYS_SHARE && 2 * a > b) {
            throw new IllegalArgumentException();
        }
        beginTreeChange();
        Step changed = state.step[step];
        int before = changed.payKind;
        changed.payKind = kind;
        changed.payment.put(kind == 0 ? 0 : a, b);
        return before;
    }

    public int beside(int step, int a, int b, int c, int d)
            throws IndexOutOfBoundsException, IllegalArgumentException {
        if (!hasStep(step)) {
            throw new IndexOutOfBoundsException();
        }
        if (!isDigit(a) || !isDigit(b) || !isDigit(c) || !isDigit(d)) {
            throw new IllegalArgumentException();
        }
        beginTreeChange();
        Step changed = state.step[step];
        changed.side[UP].put(a, b);
        changed.side[DOWN].put(c, d);
        changed.side[MIDDLE].put(a * d + c * b, 2 * b * d);
        return changed.side[UP].order(changed.side[DOWN]);
    }

    public int unstep() throws IllegalStateException {
        if (state.steps == 0 || state.hasEndAt(state.steps)) {
            throw new IllegalStateException();
        }
        beginTreeChange();
        state.steps--;
        return state.steps;
    }

    // ---- claims

    public int claim(int end, boolean isStop)
            throws IllegalArgumentException, IllegalStateException {
        if (!isWithin(end, 1, state.steps)) {
            throw new IllegalArgumentException();
        }
        if (state.claims >= MOST_CLAIMS) {
            throw new IllegalStateException();
        }
        if (faultOfSlip() != NONE) {
            refusals++;
            return REFUSED;
        }
        beginChange();
        state.playClaim = NONE;
        Claim made = state.claim[state.claims];
        made.begin(slip, slipSize);
        made.end = end;
        made.mayStop = isStop;
        table[state.claims].isFresh = false;
        state.claims++;
        return state.claims - 1;
    }

    public int wall(int claim, int kind, int a, int b)
            throws IndexOutOfBoundsException, IllegalArgumentException {
        if (!hasClaim(claim)) {
            throw new IndexOutOfBoundsException();
        }
        if (!isWithin(kind, 0, 4) || !isWithin(a, 1, 99) || !isWithin(b, 1, 9)) {
            throw new IllegalArgumentException();
        }
        beginChange();
        state.playClaim = NONE;
        Claim changed = state.claim[claim];
        int before = changed.wall;
        changed.wall = kind;
        changed.level.put(a, b);
        table[claim].isFresh = false;
        return before;
    }

    public int drop() throws IllegalStateException {
        if (state.claims == 0) {
            throw new IllegalStateException();
        }
        beginChange();
        state.playClaim = NONE;
        state.claims--;
        return state.claims;
    }

    // ---- book, quotes, play

    public int book(int claim, int many)
            throws IndexOutOfBoundsException, IllegalArgumentException {
        if (!hasClaim(claim)) {
            throw new IndexOutOfBoundsException();
        }
        if (!isWithin(many, -9, 9)) {
            throw new IllegalArgumentException();
        }
        beginChange();
        int before = state.claim[claim].many;
        state.claim[claim].many = many;
        return before;
    }

    public int quote(int claim, int a, int b)
            throws IndexOutOfBoundsException, IllegalArgumentException {
        if (!hasClaim(claim)) {
            throw new IndexOutOfBoundsException();
        }
        if (!isWithin(a, -99, 99) || !isWithin(b, 0, 9)) {
            throw new IllegalArgumentException();
        }
        beginChange();
        Claim changed = state.claim[claim];
        changed.isQuoted = b != 0;
        changed.quote.put(b == 0 ? 0 : a, b == 0 ? 1 : b);
        return state.quotes();
    }

    public int fee(int a, int b) throws IllegalArgumentException {
        if (!isWithin(a, 0, 9) || !isWithin(b, 1, 99) || 2 * a > b) {
            throw new IllegalArgumentException();
        }
        beginChange();
        boolean wasAbove = state.fee.top > 0;
        state.fee.put(a, b);
        return wasAbove ? 1 : 0;
    }

    public int sell(int claim) throws IndexOutOfBoundsException, IllegalStateException {
        if (!hasClaim(claim)) {
            throw new IndexOutOfBoundsException();
        }
        if (state.isRefused(claim)) {
            throw new IllegalStateException();
        }
        beginChange();
        state.playClaim = claim;
        state.playDays = 0;
        state.playCode = 0;
        state.isOver = false;
        state.playFee[0].copyPart(state.fee);
        play.isFresh = false;
        return state.claim[claim].end;
    }

    public int day(int way) throws IllegalArgumentException, IllegalStateException {
        boolean isGoing = isPlayGoing();
        if (!isWithin(way, DOWN, UP) || isGoing && !state.step[state.playDays].hasWay(way)) {
            throw new IllegalArgumentException();
        }
        if (!isGoing) {
            throw new IllegalStateException();
        }
        beginChange();
        state.playCode = state.playCode * WAYS + way;
        state.playDays++;
        if (state.playDays >= state.claim[state.playClaim].end) {
            state.isOver = true;
        } else {
            state.playFee[state.playDays].copyPart(state.fee);
        }
        play.isFresh = false;
        return state.playDays;
    }

    public int stop() throws IllegalStateException {
        if (!isPlayGoing() || !state.claim[state.playClaim].mayStop) {
            throw new IllegalStateException();
        }
        beginChange();
        freshenClaim(state.playClaim);
        state.isOver = true;
        play.isFresh = false;
        return table[state.playClaim].stopsAt[FIRST[state.playDays] + state.playCode] ? 1 : 0;
    }

    // ---- slip, steps back

    public int type(int sign) throws IllegalArgumentException, IllegalStateException {
        if (!isWithin(sign, 0, SIGN_POSITIVE)) {
            throw new IllegalArgumentException();
        }
        if (slipSize >= MOST_SIGNS) {
            throw new IllegalStateException();
        }
        slip[slipSize] = sign;
        slipSize++;
        return slipSize;
    }

    public int wipe() {
        int before = slipSize;
        slipSize = 0;
        return before;
    }

    public int undo() throws IllegalStateException {
        if (earlierCount == 0) {
            throw new IllegalStateException();
        }
        earlierCount--;
        state.copyState(earlier[(earlierFirst + earlierCount) % MOST_UNDONE]);
        markAllStale();
        return earlierCount;
    }

    public int knock() {
        knocks++;
        return knocks;
    }

    // ---- what is asked of the tree

    public String price(int step, int code, int what)
            throws IndexOutOfBoundsException, IllegalArgumentException {
        if (!state.hasNode(step, code, state.steps)) {
            throw new IndexOutOfBoundsException();
        }
        if (!isWithin(what, 0, 5)) {
            throw new IllegalArgumentException();
        }
        freshenTree();
        tree.copyPrice(answer, FIRST[step] + code, step, what);
        text.setLength(0);
        putAnswer();
        return text.toString();
    }

    public int nodes(int step) throws IndexOutOfBoundsException {
        if (!isWithin(step, 0, state.steps)) {
            throw new IndexOutOfBoundsException();
        }
        return state.nodesBehind(step);
    }

    public String prices(int step, boolean isMany) throws IndexOutOfBoundsException {
        if (!isWithin(step, 0, state.steps)) {
            throw new IndexOutOfBoundsException();
        }
        freshenTree();
        text.setLength(0);
        putPrices(step, isMany);
        return text.toString();
    }

    public String sure(int step) throws IndexOutOfBoundsException {
        if (!hasStep(step)) {
            throw new IndexOutOfBoundsException();
        }
        text.setLength(0);
        text.append(state.step[step].sureTrade());
        return text.toString();
    }

    public String weight(int step, int way)
            throws IndexOutOfBoundsException, IllegalArgumentException {
        if (!hasStep(step)) {
            throw new IndexOutOfBoundsException();
        }
        if (way != DOWN && way != UP) {
            throw new IllegalArgumentException();
        }
        text.setLength(0);
        putWeight(step, way);
        return text.toString();
    }

    public int unfair() {
        return firstUnfair();
    }

    public String ofStep(int step, int what)
            throws IndexOutOfBoundsException, IllegalArgumentException {
        if (!hasStep(step)) {
            throw new IndexOutOfBoundsException();
        }
        if (!isWithin(what, 0, 7)) {
            throw new IllegalArgumentException();
        }
        text.setLength(0);
        putOfStep(step, what);
        return text.toString();
    }

    // ---- what is asked of claims

    public String due(int claim, int step, int code) throws IndexOutOfBoundsException {
        if (!hasClaim(claim) || !state.hasNode(step, code, state.claim[claim].end)) {
            throw new IndexOutOfBoundsException();
        }
        freshenClaim(claim);
        text.setLength(0);
        putDue(claim, FIRST[step] + code);
        return text.toString();
    }

    public String worth(int claim, int step, int code, boolean isHigh)
            throws IndexOutOfBoundsException, IllegalStateException {
        if (!hasClaim(claim) || !state.hasNode(step, code, state.claim[claim].end)) {
            throw new IndexOutOfBoundsException();
        }
        if (state.isRefused(claim)) {
            throw new IllegalStateException();
        }
        freshenClaim(claim);
        text.setLength(0);
        putWorth(claim, FIRST[step] + code, step, isHigh);
        return text.toString();
    }

    public String holding(int claim, int step, int code, boolean isHigh, int what)
            throws IndexOutOfBoundsException, IllegalArgumentException, IllegalStateException {
        if (!hasClaim(claim) || !state.hasNode(step, code, state.claim[claim].end - 1)) {
            throw new IndexOutOfBoundsException();
        }
        if (!isWithin(what, 0, 2)) {
            throw new IllegalArgumentException();
        }
        if (state.isRefused(claim)) {
            throw new IllegalStateException();
        }
        freshenClaim(claim);
        text.setLength(0);
        table[claim].copyHolding(tree, FIRST[step] + code, step, isHigh, what, answer);
        putAnswer();
        return text.toString();
    }

    public boolean stops(int claim, int step, int code)
            throws IndexOutOfBoundsException, IllegalStateException {
        if (!hasClaim(claim) || !state.hasNode(step, code, state.claim[claim].end - 1)) {
            throw new IndexOutOfBoundsException();
        }
        if (state.isRefused(claim)) {
            throw new IllegalStateException();
        }
        freshenClaim(claim);
        return table[claim].stopsAt[FIRST[step] + code];
    }

    public String best(int claim) throws IndexOutOfBoundsException, IllegalStateException {
        if (!hasClaim(claim)) {
            throw new IndexOutOfBoundsException();
        }
        if (state.isRefused(claim)) {
            throw new IllegalStateException();
        }
        freshenClaim(claim);
        text.setLength(0);
        putBest(claim);
        return text.toString();
    }

    public String span(int claim) throws IndexOutOfBoundsException, IllegalStateException {
        if (!hasClaim(claim)) {
            throw new IndexOutOfBoundsException();
        }
        if (state.isRefused(claim)) {
            throw new IllegalStateException();
        }
        freshenClaim(claim);
        Table asked = table[claim];
        answer.top.sum(asked.high[0], asked.low[0], true);
        answer.low.copy(asked.scale[0]);
        text.setLength(0);
        putAnswer();
        return text.toString();
    }

    public int implied(int claim, int a, int b)
            throws IndexOutOfBoundsException, IllegalArgumentException {
        if (!hasClaim(claim)) {
            throw new IndexOutOfBoundsException();
        }
        if (!isWithin(a, -99, 99) || !isDigit(b)) {
            throw new IllegalArgumentException();
        }
        part.put(a, b);
        Claim asked = state.claim[claim];
        for (int more = 0; more <= MOST_MORE; more++) {
            otherTree.grow(state, state.start, more);
            if (!otherTree.hasSureWinAhead(asked.end)) {
                otherTable.fillTable(otherTree, asked, heap);
                if (otherTable.orderOfHigh(part) >= 0) {
                    return more;
                }
            }
        }
        return NONE;
    }

    public String law(int claim, int other) throws IndexOutOfBoundsException {
        if (!hasClaim(claim) || !hasClaim(other)) {
            throw new IndexOutOfBoundsException();
        }
        text.setLength(0);
        if (state.claim[claim].end != state.claim[other].end
                || !state.claim[claim].isPlain() || !state.claim[other].isPlain()) {
            text.append('.');
        } else {
            freshenClaim(claim);
            freshenClaim(other);
            putLaw(table[claim], table[other]);
        }
        return text.toString();
    }

    // ---- what is asked of book, quotes, play

    public String worthOf(int a, int b, boolean isMove)
            throws IllegalArgumentException, IllegalStateException {
        if (!isWithin(a, 1, 99) || !isWithin(b, 1, 9)) {
            throw new IllegalArgumentException();
        }
        if (state.isBookRefused()) {
            throw new IllegalStateException();
        }
        part.put(a, b);
        otherTree.grow(state, part, 0);
        answer.setNumber(0);
        for (int n = 0; n < state.claims; n++) {
            if (state.claim[n].many != 0) {
                otherTable.fillTable(otherTree, state.claim[n], heap);
                addWorth(otherTable, state.claim[n].many, false);
                if (isMove) {
                    freshenClaim(n);
                    addWorth(table[n], state.claim[n].many, true);
                }
            }
        }
        text.setLength(0);
        putAnswer();
        return text.toString();
    }

    public String least(int end) throws IndexOutOfBoundsException {
        if (!isWithin(end, 0, state.steps)) {
            throw new IndexOutOfBoundsException();
        }
        freshenAll();
        text.setLength(0);
        putLeast(end);
        return text.toString();
    }

    public String trade() {
        freshenAll();
        text.setLength(0);
        putTrade();
        return text.toString();
    }

    public String played(int what) throws IllegalArgumentException {
        if (!isWithin(what, 0, 4)) {
            throw new IllegalArgumentException();
        }
        text.setLength(0);
        if (state.playClaim != NONE) {
            freshenClaim(state.playClaim);
            play.freshen(state, tree, table[state.playClaim], reckoner);
        }
        putPlayed(what);
        return text.toString();
    }

    public int ofClaim(int claim, int what)
            throws IndexOutOfBoundsException, IllegalArgumentException {
        if (!hasClaim(claim)) {
            throw new IndexOutOfBoundsException();
        }
        if (!isWithin(what, 0, 6)) {
            throw new IllegalArgumentException();
        }
        return numberOfClaim(claim, what);
    }

    public String told(int claim) throws IndexOutOfBoundsException {
        if (!hasClaim(claim)) {
            throw new IndexOutOfBoundsException();
        }
        text.setLength(0);
        state.claim[claim].putSigns(text);
        return text.toString();
    }

    public int fault() {
        return faultOfSlip();
    }

    public int house(int what) throws IllegalArgumentException {
        if (!isWithin(what, 0, 8)) {
            throw new IllegalArgumentException();
        }
        return numberOfHouse(what);
    }

    public boolean isSound() {
        freshenAll();
        return isAllSound();
    }

    public long digest() {
        freshenAll();
        if (state.playClaim != NONE) {
            play.freshen(state, tree, table[state.playClaim], reckoner);
        }
        long d = DIGEST_START;
        for (int what = 0; what <= 8; what++) {
            d = d * 31 + numberOfHouse(what);
        }
        for (int step = 0; step < state.steps; step++) {
            d = foldStep(d, step);
        }
        text.setLength(0);
        putPrices(state.steps, true);
        d = foldText(d);
        d = d * 31 + firstUnfair();
        for (int claim = 0; claim < state.claims; claim++) {
            d = foldClaim(d, claim);
        }
        putTrade();
        d = foldText(d);
        for (int what = 0; what <= 4; what++) {
            putPlayed(what);
            d = foldText(d);
        }
        d = d * 31 + faultOfSlip();
        return d * 31 + (isAllSound() ? 1 : 0);
    }

    // ---- the digest's parts

    /** Takes the text's signs into a digest, and leaves it empty for the next one. */
    private long foldText(long digest) {
        long d = digest * 31 + text.length();
        for (int n = 0; n < text.length(); n++) {
            d = d * 31 + text.charAt(n);
        }
        text.setLength(0);
        return d;
    }

    private long foldStep(long digest, int step) {
        long d = digest;
        text.setLength(0);
        for (int what = 0; what <= 7; what++) {
            putOfStep(step, what);
            d = foldText(d);
        }
        text.append(state.step[step].sureTrade());
        d = foldText(d);
        putWeight(step, UP);
        return foldText(d);
    }

    private long foldClaim(long digest, int claim) {
        long d = digest;
        text.setLength(0);
        state.claim[claim].putSigns(text);
        d = foldText(d);
        for (int what = 0; what <= 6; what++) {
            d = d * 31 + numberOfClaim(claim, what);
        }
        putDue(claim, 0);
        d = foldText(d);
        if (state.isRefused(claim)) {
            return d;
        }
        putWorth(claim, 0, 0, true);
        d = foldText(d);
        putWorth(claim, 0, 0, false);
        d = foldText(d);
        for (int n = 0; n < 4; n++) {
            table[claim].copyHolding(tree, 0, 0, n < 2, n % 2, answer);
            putAnswer();
            d = foldText(d);
        }
        putBest(claim);
        return foldText(d);
    }

    // ---- what is looked at first

    private static boolean isWithin(int number, int least, int most) {
        return number >= least && number <= most;
    }

    private static boolean isDigit(int number) {
        return number >= 1 && number <= 9;
    }

    private boolean hasStep(int step) {
        return step >= 0 && step < state.steps;
    }

    private boolean hasClaim(int claim) {
        return claim >= 0 && claim < state.claims;
    }

    private boolean isPlayGoing() {
        return state.playClaim != NONE && !state.isOver;
    }

    // ---- changes

    private void beginChange() {
        if (earlierCount == MOST_UNDONE) {
            earlierFirst = (earlierFirst + 1) % MOST_UNDONE;
            earlierCount--;
        }
        earlier[(earlierFirst + earlierCount) % MOST_UNDONE].copyState(state);
        earlierCount++;
    }

    private void beginTreeChange() {
        beginChange();
        state.playClaim = NONE;
        markAllStale();
    }

    private void markAllStale() {
        tree.isFresh = false;
        for (int n = 0; n < MOST_CLAIMS; n++) {
            table[n].isFresh = false;
        }
        play.isFresh = false;
    }

    private void freshenTree() {
        if (!tree.isFresh) {
            tree.grow(state, state.start, 0);
        }
    }

    private void freshenClaim(int claim) {
        freshenTree();
        if (!table[claim].isFresh) {
            table[claim].fillTable(tree, state.claim[claim], heap);
        }
    }

    private void freshenAll() {
        freshenTree();
        for (int n = 0; n < state.claims; n++) {
            if (!table[n].isFresh) {
                table[n].fillTable(tree, state.claim[n], heap);
            }
        }
    }

    // ---- numbers that are told

    private int faultOfSlip() {
        int lying = 0;
        for (int n = 0; n < slipSize; n++) {
            if (slip[n] < SIGN_ADD) {
                lying++;
            } else if (slip[n] == SIGN_POSITIVE) {
                if (lying < 1) {
                    return n;
                }
            } else {
                if (lying < 2) {
                    return n;
                }
                lying--;
            }
        }
        return lying == 1 ? NONE : slipSize;
    }

    private int numberOfHouse(int what) {
        switch (what) {
            case 0:
                return state.steps;
            case 1:
                return state.claims;
            case 2:
                return state.quotes();
            case 3:
                return state.playClaim == NONE ? 0 : state.isOver ? 2 : 1;
            case 4:
                return state.playClaim == NONE ? NONE : state.playDays;
            case 5:
                return earlierCount;
            case 6:
                return refusals;
            case 7:
                return knocks;
            default:
                return state.firstSureWin();
        }
    }

    private int numberOfClaim(int claim, int what) {
        Claim asked = state.claim[claim];
        switch (what) {
            case 0:
                return asked.end;
            case 1:
                return asked.mayStop ? 1 : 0;
            case 2:
                return asked.wall;
            case 3:
                return asked.many;
            case 4:
                return asked.isQuoted ? 1 : 0;
            case 5:
                return state.isRefused(claim) ? 1 : 0;
            default:
                return asked.size;
        }
    }

    private int firstUnfair() {
        for (int n = 0; n < state.steps; n++) {
            Step asked = state.step[n];
            if (!asked.hasMiddle && !asked.hasSureWin() && !asked.isFair()) {
                return n;
            }
        }
        return NONE;
    }

    // ---- texts

    private void putAnswer() {
        reckoner.reduce(answer);
        answer.putRatio(text);
    }

    private void putPrices(int step, boolean isMany) {
        int count = tree.sortPrices(step);
        for (int n = 0; n < count; n++) {
            if (n > 0) {
                text.append(' ');
            }
            tree.copyPrice(answer, tree.sorted[n], step, 0);
            putAnswer();
            if (isMany) {
                text.append('x').append(tree.often[n]);
            }
        }
    }

    private void putWeight(int step, int way) {
        Step asked = state.step[step];
        if (asked.hasMiddle || asked.hasSureWin()) {
            text.append('.');
        } else {
            asked.copyWeight(part, way);
            part.putPart(text);
        }
    }

    private void putOfStep(int step, int what) {
        Step asked = state.step[step];
        if (what == 1 && !asked.hasMiddle) {
            text.append('.');
        } else if (what < 3) {
            asked.factor[UP - what].putPart(text);
        } else if (what == 3) {
            asked.interest.putPart(text);
        } else if (what < 7) {
            asked.side[UP + 4 - what].putPart(text);
        } else {
            asked.payment.putPart(text);
            if (asked.payKind == PAYS_SHARE) {
                text.append('s');
            }
        }
    }

    private void putDue(int claim, int node) {
        Table asked = table[claim];
        answer.top.copy(asked.payoff[node]);
        answer.low.copy(asked.scale[asked.end]);
        putAnswer();
    }

    private void putWorth(int claim, int node, int level, boolean isHigh) {
        Table asked = table[claim];
        answer.top.copy(isHigh ? asked.high[node] : asked.low[node]);
        answer.low.copy(asked.scale[level]);
        putAnswer();
    }

    private void putBest(int claim) {
        if (!state.claim[claim].mayStop) {
            return;
        }
        Table asked = table[claim];
        boolean isFirst = true;
        for (int level = 0; level < asked.end; level++) {
            for (int node = FIRST[level]; node < FIRST[level + 1]; node++) {
                if (tree.isNode[node] && asked.stopsFirstAt(node)) {
                    if (!isFirst) {
                        text.append(' ');
                    }
                    text.append(level).append(':').append(node - FIRST[level]);
                    isFirst = false;
                }
            }
        }
    }

    private void putLaw(Table one, Table two) {
        if (one.findLaw(tree, two, answer, second)) {
            putAnswer();
            text.append(' ');
            reckoner.reduce(second);
            second.putRatio(text);
        } else {
            text.append('.');
        }
    }

    /** Adds to the answer a table's part of the book, or takes it away. */
    private void addWorth(Table from, int many, boolean isLess) {
        second.top.copy(many > 0 ? from.high[0] : from.low[0]);
        second.top.multiply(Math.abs(many));
        second.low.copy(from.scale[0]);
        reckoner.reduce(second);
        reckoner.sumRatios(answer, answer, second, isLess != many < 0);
    }

    private void putLeast(int end) {
        int power = 0;
        int sidePower = 0;
        for (int n = 0; n < state.claims; n++) {
            if (state.claim[n].end == end) {
                power = Math.max(power, table[n].degree);
                sidePower = Math.max(sidePower, table[n].sideDegree);
            }
        }
        boolean isFirst = true;
        answer.setNumber(0);
        for (int node = FIRST[end]; node < FIRST[end + 1]; node++) {
            if (tree.isNode[node]) {
                sumDues(end, node, power, sidePower);
                if (isFirst || Whole.compare(second.top, answer.top) < 0) {
                    answer.top.copy(second.top);
                }
                isFirst = false;
            }
        }
        answer.low.product(tree.power[power], tree.sidePower[sidePower]);
        putAnswer();
    }

    /** Sums the book's dues at a node into second, over these powers of the tree's scales. */
    private void sumDues(int end, int node, int power, int sidePower) {
        second.setNumber(0);
        for (int n = 0; n < state.claims; n++) {
            int many = state.claim[n].many;
            if (state.claim[n].end == end && many != 0) {
                Whole due = table[n].liftedDue(tree, node, power, sidePower);
                due.multiply(Math.abs(many));
                second.top.sum(second.top, due, many < 0);
            }
        }
    }

    private void putTrade() {
        for (int n = 0; n < state.claims; n++) {
            Claim asked = state.claim[n];
            if (asked.isQuoted && !state.isRefused(n)) {
                boolean isAbove = table[n].orderOfHigh(asked.quote) < 0;
                if (isAbove || table[n].orderOfLow(asked.quote) > 0) {
                    putGain(n, isAbove);
                    return;
                }
            }
        }
        text.append('.');
    }

    private void putGain(int claim, boolean isAbove) {
        Table asked = table[claim];
        Part quote = state.claim[claim].quote;
        text.append(claim).append(isAbove ? '-' : '+').append(' ');
        answer.top.copy(isAbove ? asked.high[0] : asked.low[0]);
        answer.low.copy(asked.scale[0]);
        second.setPart(quote);
        reckoner.sumRatios(answer, answer, second, true);
        answer.top.isBelow = false;
        putAnswer();
    }

    private void putPlayed(int what) {
        if (state.playClaim == NONE) {
            text.append('.');
            return;
        }
        switch (what) {
            case 0:
                answer.copyRatio(play.money);
                break;
            case 1:
                answer.copyRatio(play.pieces);
                break;
            case 2:
                tree.copyPrice(answer, play.node, play.level, 0);
                break;
            case 3:
                answer.copyRatio(play.spare);
                break;
            default:
                answer.copyRatio(play.fees);
                break;
        }
        putAnswer();
    }

    // ---- whether all is sound

    private boolean isAllSound() {
        for (int n = 0; n < state.claims; n++) {
            if (!state.isRefused(n) && !table[n].isSoundTable(tree, state.claim[n])) {
                return false;
            }
        }
        for (int n = 0; n < state.steps; n++) {
            if (!state.step[n].isSureWinSound()) {
                return false;
            }
        }
        return true;
    }

    /** A whole number of any size that its room holds, its digits to BASE, the smallest first. */
    private static final class Whole {
        final int[] digit;
        int size;
        boolean isBelow;

        Whole(int room) {
            digit = new int[Math.max(1, room)];
            size = 0;
            isBelow = false;
        }

        void set(long value) {
            long rest = Math.abs(value);
            isBelow = value < 0;
            size = 0;
            while (rest > 0 && size < digit.length) {
                digit[size] = (int) (rest % BASE);
                rest = rest / BASE;
                size++;
            }
        }

        void copy(Whole other) {
            size = Math.min(other.size, digit.length);
            isBelow = other.isBelow;
            System.arraycopy(other.digit, 0, digit, 0, size);
        }

        int sign() {
            return size == 0 ? 0 : isBelow ? -1 : 1;
        }

        /** Whether a long holds it, and asLong tells it. */
        boolean isShort() {
            return size <= 2;
        }

        long asLong() {
            long upper = size > 1 ? digit[1] : 0;
            long lower = size > 0 ? digit[0] : 0;
            long all = upper * BASE + lower;
            return isBelow ? -all : all;
        }

        boolean isOne() {
            return size == 1 && digit[0] == 1 && !isBelow;
        }

        static int compareSizes(Whole a, Whole b) {
            if (a.size != b.size) {
                return a.size < b.size ? -1 : 1;
            }
            for (int n = a.size - 1; n >= 0; n--) {
                if (a.digit[n] != b.digit[n]) {
                    return a.digit[n] < b.digit[n] ? -1 : 1;
                }
            }
            return 0;
        }

        static int compare(Whole a, Whole b) {
            if (a.sign() != b.sign()) {
                return a.sign() < b.sign() ? -1 : 1;
            }
            return a.isBelow ? compareSizes(b, a) : compareSizes(a, b);
        }

        /** Multiplies by a number from 0 to 9,000,000,000, for which a long holds each step. */
        void multiply(long factor) {
            if (factor <= 0) {
                size = 0;
                isBelow = false;
                return;
            }
            long carry = 0;
            for (int n = 0; n < size; n++) {
                long sum = digit[n] * factor + carry;
                carry = sum / BASE;
                digit[n] = (int) (sum - carry * BASE);
            }
            while (carry > 0 && size < digit.length) {
                digit[size] = (int) (carry % BASE);
                carry = carry / BASE;
                size++;
            }
        }

        /** Divides by a number from 1 to 9,000,000,000; what is over is lost. */
        void cut(long divisor) {
            if (divisor <= 0) {
                return;
            }
            long rest = 0;
            for (int n = size - 1; n >= 0; n--) {
                long sum = rest * BASE + digit[n];
                digit[n] = (int) (sum / divisor);
                rest = sum % divisor;
            }
            trim();
        }

        /** Becomes a and b together, or a less b; may be one of them. */
        void sum(Whole a, Whole b, boolean isLess) {
            boolean isBelowB = b.isBelow != isLess;
            boolean isBelowA = a.isBelow;
            if (isBelowA == isBelowB) {
                addSizes(a, b);
                isBelow = isBelowA;
            } else if (compareSizes(a, b) >= 0) {
                takeSizes(a, b);
                isBelow = isBelowA;
            } else {
                takeSizes(b, a);
                isBelow = isBelowB;
            }
            if (size == 0) {
                isBelow = false;
            }
        }

        private void addSizes(Whole a, Whole b) {
            int sizeA = a.size;
            int sizeB = b.size;
            int count = sizeA > sizeB ? sizeA : sizeB;
            count = count > digit.length ? digit.length : count;
            int carry = 0;
            for (int n = 0; n < count; n++) {
                int sum = carry + (n < sizeA ? a.digit[n] : 0) + (n < sizeB ? b.digit[n] : 0);
                carry = sum >= BASE ? 1 : 0;
                digit[n] = sum - carry * BASE;
            }
            size = count;
            if (carry > 0 && size < digit.length) {
                digit[size] = carry;
                size++;
            }
        }

        private void takeSizes(Whole larger, Whole smaller) {
            int sizeB = smaller.size;
            int count = larger.size > digit.length ? digit.length : larger.size;
            int borrow = 0;
            for (int n = 0; n < count; n++) {
                int rest = larger.digit[n] - borrow - (n < sizeB ? smaller.digit[n] : 0);
                borrow = rest < 0 ? 1 : 0;
                digit[n] = rest + borrow * BASE;
            }
            size = count;
            while (size > 0 && digit[size - 1] == 0) {
                size--;
            }
        }

        /** Becomes a times b; must be neither of them. */
        void product(Whole a, Whole b) {
            size = a.size == 0 || b.size == 0 ? 0 : Math.min(a.size + b.size, digit.length);
            isBelow = size > 0 && a.isBelow != b.isBelow;
            Arrays.fill(digit, 0, size, 0);
            for (int n = 0; n < a.size && n < size; n++) {
                long carry = 0;
                for (int m = 0; m < b.size && n + m < size; m++) {
                    long sum = (long) a.digit[n] * b.digit[m] + digit[n + m] + carry;
                    carry = sum / BASE;
                    digit[n + m] = (int) (sum - carry * BASE);
                }
                if (n + b.size < size) {
                    digit[n + b.size] = (int) carry;
                }
            }
            if (size > 0 && digit[size - 1] == 0) {
                size--;
            }
        }

        /**
         * Leaves what is over after a division of this one's size by the divisor's; quotient gets
         * how often it went, scaled is a room to work in.
         */
        void divide(Whole divisor, Whole quotient, Whole scaled) {
            quotient.size = 0;
            quotient.isBelow = false;
            isBelow = false;
            if (divisor.size == 0 || compareSizes(this, divisor) < 0 || size >= digit.length) {
                return;
            }
            long lift = BASE / (divisor.digit[divisor.size - 1] + 1L);
            scaled.copy(divisor);
            scaled.isBelow = false;
            scaled.multiply(lift);
            multiply(lift);
            if (size >= digit.length || size >= quotient.digit.length + scaled.size) {
                return;
            }
            digit[size] = 0;
            int high = size - scaled.size;
            for (int at = high; at >= 0; at--) {
                quotient.digit[at] = takeOff(scaled, at);
            }
            quotient.size = high + 1;
            quotient.trim();
            size = scaled.size;
            cut(lift);
        }

        /** Takes the scaled divisor off as often as it goes at a place; its first digit is high. */
        private int takeOff(Whole scaled, int at) {
            int length = scaled.size;
            long first = scaled.digit[length - 1];
            if (first <= 0) {
                return 0;
            }
            long upper = (long) digit[at + length] * BASE + digit[at + length - 1];
            long guess = Math.min(upper / first, BASE - 1);
            for (int n = 0; n < 2 && length > 1; n++) {
                long rest = upper - guess * first;
                if (rest < BASE
                        && guess * scaled.digit[length - 2] > rest * BASE + digit[at + length - 2]) {
                    guess--;
                }
            }
            long carry = 0;
            for (int n = 0; n < length; n++) {
                long taken = guess * scaled.digit[n] + carry;
                carry = taken / BASE;
                long rest = digit[at + n] - (taken - carry * BASE);
                if (rest < 0) {
                    rest = rest + BASE;
                    carry++;
                }
                digit[at + n] = (int) rest;
            }
            boolean isTooOften = digit[at + length] < carry;
            digit[at + length] = 0;
            if (isTooOften) {
                guess--;
                putBack(scaled, at);
            }
            return (int) guess;
        }

        private void putBack(Whole scaled, int at) {
            int carry = 0;
            for (int n = 0; n < scaled.size; n++) {
                int sum = digit[at + n] + scaled.digit[n] + carry;
                carry = sum >= BASE ? 1 : 0;
                digit[at + n] = sum - carry * BASE;
            }
        }

        private void trim() {
            while (size > 0 && digit[size - 1] == 0) {
                size--;
            }
            if (size == 0) {
                isBelow = false;
            }
        }

        void putWhole(StringBuilder text) {
            if (isBelow) {
                text.append('-');
            }
            text.append(size == 0 ? 0 : digit[size - 1]);
            for (int n = size - 2; n >= 0; n--) {
                for (int place = TOP_PLACE; place > 0; place = place / 10) {
                    text.append((char) ('0' + digit[n] / place % 10));
                }
            }
        }
    }

    /** A fraction of whole numbers; the lower one is above 0. */
    private static final class Ratio {
        final Whole top;
        final Whole low;

        Ratio() {
            top = new Whole(WIDE_ROOM);
            low = new Whole(WIDE_ROOM);
            low.set(1);
        }

        void setNumber(long value) {
            top.set(value);
            low.set(1);
        }

        void setPart(Part value) {
            top.set(value.top);
            low.set(value.low);
        }

        void copyRatio(Ratio other) {
            top.copy(other.top);
            low.copy(other.low);
        }

        void putRatio(StringBuilder text) {
            top.putWhole(text);
            if (!low.isOne()) {
                text.append('/');
                low.putWhole(text);
            }
        }
    }

    /** A small fraction in lowest terms. */
    private static final class Part {
        long top;
        long low;

        Part(long value) {
            top = value;
            low = 1;
        }

        void put(long above, long below) {
            long shared = common(Math.abs(above), below);
            top = shared > 1 ? above / shared : above;
            low = shared > 1 ? below / shared : below;
        }

        void copyPart(Part other) {
            top = other.top;
            low = other.low;
        }

        int order(Part other) {
            long here = top * other.low;
            long there = other.top * low;
            return here < there ? -1 : here > there ? 1 : 0;
        }

        static long common(long a, long b) {
            long one = a;
            long two = b;
            for (int n = 0; n < MOST_ROUNDS && two > 0; n++) {
                long rest = one % two;
                one = two;
                two = rest;
            }
            return one;
        }

        static long multiple(long a, long b) {
            long shared = common(a, b);
            return shared > 0 ? a / shared * b : a;
        }

        void putPart(StringBuilder text) {
            text.append((int) top);
            if (low != 1) {
                text.append('/').append((int) low);
            }
        }
    }

    /** A step: its factors, its interest, what it pays; rows are by ways. */
    private static final class Step {
        final Part[] factor;
        final Part[] side;
        final Part interest;
        final Part payment;
        int payKind;
        boolean hasMiddle;

        Step() {
            factor = new Part[WAYS];
            side = new Part[WAYS];
            for (int way = 0; way < WAYS; way++) {
                factor[way] = new Part(1);
                side[way] = new Part(1);
            }
            interest = new Part(1);
            payment = new Part(0);
            payKind = 0;
            hasMiddle = false;
        }

        void begin() {
            for (int way = 0; way < WAYS; way++) {
                factor[way].put(1, 1);
                side[way].put(1, 1);
            }
            interest.put(1, 1);
            payment.put(0, 1);
            payKind = 0;
            hasMiddle = false;
        }

        void copyStep(Step other) {
            for (int way = 0; way < WAYS; way++) {
                factor[way].copyPart(other.factor[way]);
                side[way].copyPart(other.side[way]);
            }
            interest.copyPart(other.interest);
            payment.copyPart(other.payment);
            payKind = other.payKind;
            hasMiddle = other.hasMiddle;
        }

        boolean hasWay(int way) {
            return way != MIDDLE || hasMiddle;
        }

        char sureTrade() {
            if (interest.order(factor[DOWN]) <= 0) {
                return '+';
            }
            return interest.order(factor[UP]) >= 0 ? '-' : '.';
        }

        boolean hasSureWin() {
            return sureTrade() != '.';
        }

        /** What the upper factor of a pair is above the lower one, times both their lower numbers. */
        long gap(int lower, int upper) {
            return factor[upper].top * factor[lower].low - factor[lower].top * factor[upper].low;
        }

        /** What a factor is above interest, times both their lower numbers. */
        long aboveInterest(int way) {
            return factor[way].top * interest.low - interest.top * factor[way].low;
        }

        void copyWeight(Part out, int way) {
            long below = gap(DOWN, UP) * interest.low;
            long ofUp = -aboveInterest(DOWN) * factor[UP].low;
            out.put(way == UP ? ofUp : below - ofUp, below);
        }

        /** Whether the other stock is worth its price by the weights. */
        boolean isFair() {
            long below = gap(DOWN, UP) * interest.low;
            long ofUp = -aboveInterest(DOWN) * factor[UP].low;
            long worth = ofUp * side[UP].top * side[DOWN].low
                    + (below - ofUp) * side[DOWN].top * side[UP].low;
            return worth * interest.low == below * side[UP].low * side[DOWN].low * interest.top;
        }

        boolean isSureWinSound() {
            char trade = sureTrade();
            if (trade == '.') {
                return true;
            }
            boolean isWon = false;
            for (int way = 0; way < WAYS; way++) {
                if (hasWay(way)) {
                    long gain = trade == '+' ? aboveInterest(way) : -aboveInterest(way);
                    if (gain < 0) {
                        return false;
                    }
                    isWon = isWon || gain > 0;
                }
            }
            return isWon;
        }
    }

    /** A claim, with its number in the book and its quote. */
    private static final class Claim {
        final int[] sign;
        final Part level;
        final Part quote;
        int size;
        int end;
        int wall;
        int many;
        boolean mayStop;
        boolean isQuoted;

        Claim() {
            sign = new int[MOST_SIGNS];
            level = new Part(0);
            quote = new Part(0);
            size = 0;
            end = 1;
            wall = 0;
            many = 0;
            mayStop = false;
            isQuoted = false;
        }

        void begin(int[] signs, int count) {
            size = Math.min(count, MOST_SIGNS);
            System.arraycopy(signs, 0, sign, 0, size);
            level.put(0, 1);
            quote.put(0, 1);
            wall = 0;
            many = 0;
            isQuoted = false;
        }

        void copyClaim(Claim other) {
            size = other.size;
            System.arraycopy(other.sign, 0, sign, 0, MOST_SIGNS);
            level.copyPart(other.level);
            quote.copyPart(other.quote);
            end = other.end;
            wall = other.wall;
            many = other.many;
            mayStop = other.mayStop;
            isQuoted = other.isQuoted;
        }

        boolean isPlain() {
            return !mayStop && wall == 0;
        }

        void putSigns(StringBuilder text) {
            for (int n = 0; n < size; n++) {
                if (sign[n] >= 0 && sign[n] < SIGNS.length()) {
                    text.append(SIGNS.charAt(sign[n]));
                }
            }
        }
    }

    /** All that a change changes, and that can be undone. */
    private static final class State {
        final Part start;
        final Part sideStart;
        final Step[] step;
        int steps;
        final Claim[] claim;
        int claims;
        final Part fee;
        /** The claim that is sold, or NONE without a play. */
        int playClaim;
        int playDays;
        int playCode;
        boolean isOver;
        /** The fee as it was when pieces were made those of the holding, by days gone. */
        final Part[] playFee;

        State() {
            start = new Part(10);
            sideStart = new Part(10);
            step = new Step[MOST_STEPS];
            playFee = new Part[MOST_STEPS];
            for (int n = 0; n < MOST_STEPS; n++) {
                step[n] = new Step();
                playFee[n] = new Part(0);
            }
            steps = 0;
            claim = new Claim[MOST_CLAIMS];
            for (int n = 0; n < MOST_CLAIMS; n++) {
                claim[n] = new Claim();
            }
            claims = 0;
            fee = new Part(0);
            playClaim = NONE;
            playDays = 0;
            playCode = 0;
            isOver = false;
        }

        void copyState(State other) {
            start.copyPart(other.start);
            sideStart.copyPart(other.sideStart);
            for (int n = 0; n < MOST_STEPS; n++) {
                step[n].copyStep(other.step[n]);
                playFee[n].copyPart(other.playFee[n]);
            }
            steps = other.steps;
            for (int n = 0; n < MOST_CLAIMS; n++) {
                claim[n].copyClaim(other.claim[n]);
            }
            claims = other.claims;
            fee.copyPart(other.fee);
            playClaim = other.playClaim;
            playDays = other.playDays;
            playCode = other.playCode;
            isOver = other.isOver;
        }

        boolean hasEndAt(int count) {
            for (int n = 0; n < claims; n++) {
                if (claim[n].end == count) {
                    return true;
                }
            }
            return false;
        }

        int quotes() {
            int count = 0;
            for (int n = 0; n < claims; n++) {
                count += claim[n].isQuoted ? 1 : 0;
            }
            return count;
        }

        int nodesBehind(int count) {
            int many = 1;
            for (int n = 0; n < count && n < steps; n++) {
                many = many * (step[n].hasMiddle ? WAYS : WAYS - 1);
            }
            return many;
        }

        /** Whether there is that node with no more steps behind it than most. */
        boolean hasNode(int count, int code, int most) {
            if (count < 0 || count > most || count > steps
                    || code < 0 || code >= POWER_OF_THREE[count]) {
                return false;
            }
            int rest = code;
            for (int n = count - 1; n >= 0; n--) {
                if (!step[n].hasWay(rest % WAYS)) {
                    return false;
                }
                rest = rest / WAYS;
            }
            return true;
        }

        int firstSureWin() {
            for (int n = 0; n < steps; n++) {
                if (step[n].hasSureWin()) {
                    return n;
                }
            }
            return NONE;
        }

        boolean isRefused(int number) {
            int first = firstSureWin();
            return first != NONE && first < claim[number].end;
        }

        boolean isBookRefused() {
            for (int n = 0; n < claims; n++) {
                if (claim[n].many != 0 && isRefused(n)) {
                    return true;
                }
            }
            return false;
        }

        int wayOfDay(int day) {
            int after = playDays - 1 - day;
            return after >= 0 && after < POWER_OF_THREE.length
                    ? playCode / POWER_OF_THREE[after] % WAYS : DOWN;
        }
    }

    /**
     * The nodes of a tree, by their numbers. All prices are whole numbers over scale, those of the
     * other stock over sideScale.
     */
    private static final class Tree {
        final Step[] step;
        int levels;
        boolean isFresh;
        /** scale and sideScale to the powers 0 to 4; scale itself is power[1]. */
        final Whole[] power;
        final Whole[] sidePower;
        final boolean[] isNode;
        final Whole[] price;
        final Whole[] paid;
        /** The sum of all prices from the first node on. */
        final Whole[] total;
        /** Which nodes on the way have the greatest and the least price. */
        final int[] most;
        final int[] least;
        final Whole[] side;
        /** By step and pair: what between takes of the lower and of the upper one, over common. */
        final long[][] lowWeight;
        final long[][] highWeight;
        final long[] common;
        final long[] below;
        final int[] sorted;
        final int[] often;

        Tree() {
            step = new Step[MOST_STEPS];
            for (int n = 0; n < MOST_STEPS; n++) {
                step[n] = new Step();
            }
            levels = 0;
            isFresh = false;
            power = new Whole[MOST_STEPS + 1];
            sidePower = new Whole[MOST_STEPS + 1];
            for (int n = 0; n <= MOST_STEPS; n++) {
                power[n] = new Whole(TABLE_ROOM);
                sidePower[n] = new Whole(TABLE_ROOM);
            }
            isNode = new boolean[NODES];
            price = new Whole[NODES];
            paid = new Whole[NODES];
            total = new Whole[NODES];
            side = new Whole[NODES];
            for (int n = 0; n < NODES; n++) {
                price[n] = new Whole(PRICE_ROOM);
                paid[n] = new Whole(PRICE_ROOM);
                total[n] = new Whole(PRICE_ROOM);
                side[n] = new Whole(PRICE_ROOM);
            }
            most = new int[NODES];
            least = new int[NODES];
            lowWeight = new long[MOST_STEPS][PAIRS];
            highWeight = new long[MOST_STEPS][PAIRS];
            common = new long[MOST_STEPS];
            below = new long[PAIRS];
            sorted = new int[LAST_NODES];
            often = new int[LAST_NODES];
        }

        /** Fills all rows, with a start of its own and tenths more for each step's UP. */
        void grow(State state, Part start, int moreTenths) {
            levels = Math.min(state.steps, MOST_STEPS);
            for (int n = 0; n < levels; n++) {
                step[n].copyStep(state.step[n]);
                Part up = step[n].factor[UP];
                up.put(up.top * 10 + moreTenths * up.low, up.low * 10);
                fillWeights(n);
            }
            fillScale(start);
            fillSideScale(state.sideStart);
            fillFirst(start, state.sideStart);
            for (int level = 0; level < levels; level++) {
                for (int node = FIRST[level]; node < FIRST[level + 1]; node++) {
                    for (int way = 0; way < WAYS; way++) {
                        fillNext(node, level, way);
                    }
                }
            }
            isFresh = true;
        }

        /** A scale over which all prices, what is paid and all means are whole. */
        private void fillScale(Part start) {
            Whole scale = power[1];
            scale.set(start.low);
            long counts = 1;
            for (int n = 0; n < levels; n++) {
                long lows = 1;
                for (int way = 0; way < WAYS; way++) {
                    if (step[n].hasWay(way)) {
                        lows = Part.multiple(lows, step[n].factor[way].low);
                    }
                }
                scale.multiply(lows * step[n].payment.low);
                counts = Part.multiple(counts, n + 2);
            }
            scale.multiply(counts);
            fillPowers(power);
        }

        private void fillSideScale(Part start) {
            Whole scale = sidePower[1];
            scale.set(start.low);
            for (int n = 0; n < levels; n++) {
                long lows = 1;
                for (int way = 0; way < WAYS; way++) {
                    lows = Part.multiple(lows, step[n].side[way].low);
                }
                scale.multiply(lows);
            }
            fillPowers(sidePower);
        }

        private static void fillPowers(Whole[] powers) {
            powers[0].set(1);
            for (int n = 2; n < powers.length; n++) {
                powers[n].product(powers[n - 1], powers[1]);
            }
        }

        private void fillFirst(Part start, Part sideStart) {
            isNode[0] = true;
            price[0].copy(power[1]);
            price[0].cut(start.low);
            price[0].multiply(start.top);
            paid[0].set(0);
            total[0].copy(price[0]);
            most[0] = 0;
            least[0] = 0;
            side[0].copy(sidePower[1]);
            side[0].cut(sideStart.low);
            side[0].multiply(sideStart.top);
        }

        private void fillNext(int node, int level, int way) {
            int next = WAYS * node + 1 + way;
            isNode[next] = isNode[node] && step[level].hasWay(way);
            if (!isNode[next]) {
                return;
            }
            Part factor = step[level].factor[way];
            price[next].copy(price[node]);
            price[next].multiply(factor.top);
            price[next].cut(factor.low);
            fillPaid(next, level);
            price[next].sum(price[next], paid[next], true);
            total[next].sum(total[node], price[next], false);
            most[next] = Whole.compare(price[next], price[most[node]]) > 0 ? next : most[node];
            least[next] = Whole.compare(price[next], price[least[node]]) < 0 ? next : least[node];
            Part factorOfSide = step[level].side[way];
            side[next].copy(side[node]);
            side[next].multiply(factorOfSide.top);
            side[next].cut(factorOfSide.low);
        }

        /** Fills what is paid at a node whose price is still the full one. */
        private void fillPaid(int node, int level) {
            Part payment = step[level].payment;
            if (step[level].payKind == PAYS_SHARE) {
                paid[node].copy(price[node]);
                paid[node].multiply(payment.top);
                paid[node].cut(payment.low);
            } else if (step[level].payKind == PAYS_AMOUNT) {
                paid[node].copy(power[1]);
                paid[node].multiply(payment.top);
                paid[node].cut(payment.low);
                if (Whole.compare(paid[node], price[node]) >= 0) {
                    paid[node].set(0);
                }
            } else {
                paid[node].set(0);
            }
        }

        private void fillWeights(int level) {
            Step asked = step[level];
            common[level] = 1;
            for (int pair = 0; pair < PAIRS; pair++) {
                int lower = PAIR_LOWER[pair];
                int upper = PAIR_UPPER[pair];
                long ofLower = asked.aboveInterest(upper) * asked.factor[lower].low;
                long ofUpper = -asked.aboveInterest(lower) * asked.factor[upper].low;
                below[pair] = 0;
                if (asked.hasWay(lower) && asked.hasWay(upper) && ofLower >= 0 && ofUpper >= 0) {
                    long under = asked.gap(lower, upper) * asked.interest.top;
                    long shared = Part.common(Part.common(ofLower, ofUpper), under);
                    if (shared > 0) {
                        below[pair] = under / shared;
                        lowWeight[level][pair] = ofLower / shared;
                        highWeight[level][pair] = ofUpper / shared;
                        common[level] = Part.multiple(common[level], below[pair]);
                    }
                }
            }
            for (int pair = 0; pair < PAIRS; pair++) {
                long often = below[pair] > 0 ? common[level] / below[pair] : NONE;
                lowWeight[level][pair] = often > 0 ? lowWeight[level][pair] * often : NONE;
                highWeight[level][pair] = often > 0 ? highWeight[level][pair] * often : NONE;
            }
        }

        boolean isPair(int level, int pair) {
            return lowWeight[level][pair] >= 0;
        }

        boolean hasSureWinAhead(int end) {
            for (int n = 0; n < end && n < levels; n++) {
                if (step[n].hasSureWin()) {
                    return true;
                }
            }
            return false;
        }

        boolean hasTwoWays(int end) {
            for (int n = 0; n < end && n < levels; n++) {
                if (step[n].hasMiddle) {
                    return false;
                }
            }
            return true;
        }

        void copyPrice(Ratio out, int node, int level, int what) {
            out.low.copy(what == 4 ? sidePower[1] : power[1]);
            switch (what) {
                case 0:
                    out.top.copy(price[node]);
                    break;
                case 1:
                    copyMean(out.top, node, level);
                    break;
                case 2:
                    out.top.copy(price[most[node]]);
                    break;
                case 3:
                    out.top.copy(price[least[node]]);
                    break;
                case 4:
                    out.top.copy(side[node]);
                    break;
                default:
                    out.top.copy(paid[node]);
                    break;
            }
        }

        void copyMean(Whole out, int node, int level) {
            out.copy(total[node]);
            out.cut(level + 1);
        }

        /** Sorts the nodes of a level, one of each price, counts them, and tells how many. */
        int sortPrices(int level) {
            int count = 0;
            for (int node = FIRST[level]; node < FIRST[level + 1]; node++) {
                if (isNode[node]) {
                    count = sortIn(node, count);
                }
            }
            return count;
        }

        private int sortIn(int node, int count) {
            int place = count;
            while (place > 0 && Whole.compare(price[sorted[place - 1]], price[node]) > 0) {
                place--;
            }
            if (place > 0 && Whole.compare(price[sorted[place - 1]], price[node]) == 0) {
                often[place - 1]++;
                return count;
            }
            if (count >= LAST_NODES) {
                return count;
            }
            System.arraycopy(sorted, place, sorted, place + 1, count - place);
            System.arraycopy(often, place, often, place + 1, count - place);
            sorted[place] = node;
            often[place] = 1;
            return count + 1;
        }
    }

    /** The heap on which a claim's signs are worked, numbers over powers of the tree's scales. */
    private static final class Heap {
        final Whole[] value;
        final int[] degree;
        final int[] sideDegree;
        final Whole spare;
        int size;

        Heap() {
            value = new Whole[MOST_SIGNS];
            for (int n = 0; n < MOST_SIGNS; n++) {
                value[n] = new Whole(TABLE_ROOM);
            }
            degree = new int[MOST_SIGNS];
            sideDegree = new int[MOST_SIGNS];
            spare = new Whole(TABLE_ROOM);
            size = 0;
        }

        void work(Tree tree, Claim claim, int node, int level) {
            size = 0;
            for (int n = 0; n < claim.size; n++) {
                int sign = claim.sign[n];
                if (sign < SIGN_ADD) {
                    lay(tree, sign, node, level);
                } else if (sign == SIGN_POSITIVE) {
                    if (size > 0 && value[size - 1].isBelow) {
                        value[size - 1].set(0);
                    }
                } else if (size > 1) {
                    join(tree, sign, size - 2);
                    size--;
                }
            }
        }

        private void lay(Tree tree, int sign, int node, int level) {
            if (size >= MOST_SIGNS) {
                return;
            }
            Whole laid = value[size];
            degree[size] = sign < SIGN_PRICE || sign == SIGN_OTHER ? 0 : 1;
            sideDegree[size] = sign == SIGN_OTHER ? 1 : 0;
            size++;
            switch (sign) {
                case SIGN_PRICE:
                    laid.copy(tree.price[node]);
                    break;
                case SIGN_MEAN:
                    tree.copyMean(laid, node, level);
                    break;
                case SIGN_GREATEST:
                    laid.copy(tree.price[tree.most[node]]);
                    break;
                case SIGN_LEAST:
                    laid.copy(tree.price[tree.least[node]]);
                    break;
                case SIGN_OTHER:
                    laid.copy(tree.side[node]);
                    break;
                default:
                    laid.set(sign);
                    break;
            }
        }

        /** Makes one of two numbers, the first of which lies at a place, the second above it. */
        private void join(Tree tree, int sign, int at) {
            if (sign == SIGN_TIMES) {
                spare.product(value[at], value[at + 1]);
                value[at].copy(spare);
                degree[at] += degree[at + 1];
                sideDegree[at] += sideDegree[at + 1];
                return;
            }
            lift(tree, at, degree[at + 1], sideDegree[at + 1]);
            lift(tree, at + 1, degree[at], sideDegree[at]);
            int order = Whole.compare(value[at], value[at + 1]);
            if (sign == SIGN_ADD || sign == SIGN_LESS) {
                value[at].sum(value[at], value[at + 1], sign == SIGN_LESS);
            } else if (sign == SIGN_GREATER ? order < 0 : order > 0) {
                value[at].copy(value[at + 1]);
            }
        }

        /** Brings a number to no less than these powers of the scales. */
        private void lift(Tree tree, int at, int power, int sidePower) {
            int more = Math.min(power - degree[at], MOST_STEPS);
            if (more > 0) {
                spare.product(value[at], tree.power[more]);
                value[at].copy(spare);
                degree[at] += more;
            }
            int moreOfSide = Math.min(sidePower - sideDegree[at], MOST_STEPS);
            if (moreOfSide > 0) {
                spare.product(value[at], tree.sidePower[moreOfSide]);
                value[at].copy(spare);
                sideDegree[at] += moreOfSide;
            }
        }
    }

    /** What a claim comes to at each node of a tree: dues over scale[end], worths over scale[level]. */
    private static final class Table {
        final Whole[] payoff;
        final Whole[] high;
        final Whole[] low;
        final Whole[] scale;
        final int[] highPair;
        final int[] lowPair;
        final boolean[] stopsAt;
        final Whole trial;
        final Whole spare;
        final Whole wide;
        final Whole stock;
        int end;
        /** Which powers of the tree's scales are under the dues. */
        int degree;
        int sideDegree;
        boolean isFresh;

        Table() {
            payoff = new Whole[NODES];
            high = new Whole[NODES];
            low = new Whole[NODES];
            for (int n = 0; n < NODES; n++) {
                payoff[n] = new Whole(TABLE_ROOM);
                high[n] = new Whole(TABLE_ROOM);
                low[n] = new Whole(TABLE_ROOM);
            }
            scale = new Whole[MOST_STEPS + 1];
            for (int n = 0; n <= MOST_STEPS; n++) {
                scale[n] = new Whole(TABLE_ROOM);
            }
            highPair = new int[NODES];
            lowPair = new int[NODES];
            stopsAt = new boolean[NODES];
            trial = new Whole(WIDE_ROOM);
            spare = new Whole(WIDE_ROOM);
            wide = new Whole(WIDE_ROOM);
            stock = new Whole(WIDE_ROOM);
            end = 1;
            degree = 0;
            sideDegree = 0;
            isFresh = false;
        }

        void fillTable(Tree tree, Claim claim, Heap heap) {
            isFresh = true;
            end = Math.min(claim.end, tree.levels);
            for (int level = 0; level <= end; level++) {
                for (int node = FIRST[level]; node < FIRST[level + 1]; node++) {
                    if (tree.isNode[node]) {
                        heap.work(tree, claim, node, level);
                        payoff[node].copy(heap.value[0]);
                        heedWall(tree, claim, node);
                    }
                }
            }
            degree = Math.min(heap.degree[0], MOST_STEPS);
            sideDegree = Math.min(heap.sideDegree[0], MOST_STEPS);
            scale[end].product(tree.power[degree], tree.sidePower[sideDegree]);
            if (tree.hasSureWinAhead(end)) {
                return;
            }
            copyEnd(tree);
            for (int level = end - 1; level >= 0; level--) {
                scale[level].copy(scale[level + 1]);
                scale[level].multiply(tree.common[level]);
                for (int node = FIRST[level]; node < FIRST[level + 1]; node++) {
                    if (tree.isNode[node]) {
                        fillWorth(tree, claim.mayStop, node, level);
                    }
                }
            }
        }

        private void heedWall(Tree tree, Claim claim, int node) {
            boolean wakes = claim.wall % 2 == 1;
            if (claim.wall != 0 && isTouched(tree, claim, node) != wakes) {
                payoff[node].set(0);
            }
        }

        private boolean isTouched(Tree tree, Claim claim, int node) {
            boolean isAbove = claim.wall <= 2;
            trial.copy(tree.price[isAbove ? tree.most[node] : tree.least[node]]);
            trial.multiply(claim.level.low);
            spare.copy(tree.power[1]);
            spare.multiply(claim.level.top);
            int order = Whole.compare(trial, spare);
            return isAbove ? order >= 0 : order <= 0;
        }

        private void copyEnd(Tree tree) {
            for (int node = FIRST[end]; node < FIRST[end + 1]; node++) {
                if (tree.isNode[node]) {
                    high[node].copy(payoff[node]);
                    low[node].copy(payoff[node]);
                }
            }
        }

        private void fillWorth(Tree tree, boolean mayStop, int node, int level) {
            highPair[node] = goOn(tree, high, node, level, true);
            lowPair[node] = goOn(tree, low, node, level, false);
            stopsAt[node] = false;
            if (mayStop) {
                liftDue(tree, node, level);
                stopsAt[node] = Whole.compare(trial, low[node]) >= 0;
                if (Whole.compare(trial, high[node]) > 0) {
                    high[node].copy(trial);
                }
                if (Whole.compare(trial, low[node]) > 0) {
                    low[node].copy(trial);
                }
            }
        }

        /** Brings what is due at a node to its level's scale, in trial. */
        private void liftDue(Tree tree, int node, int level) {
            trial.copy(payoff[node]);
            for (int n = level; n < end; n++) {
                trial.multiply(tree.common[n]);
            }
        }

        /** Fills the worth of going on at a node, and tells the pair that it is of. */
        private int goOn(Tree tree, Whole[] worth, int node, int level, boolean isHigh) {
            int taken = NONE;
            for (int pair = 0; pair < PAIRS; pair++) {
                if (tree.isPair(level, pair)) {
                    between(tree, worth, node, level, pair);
                    int order = taken == NONE ? 0 : Whole.compare(trial, worth[node]);
                    if (taken == NONE || (isHigh ? order > 0 : order < 0)) {
                        taken = pair;
                        worth[node].copy(trial);
                    }
                }
            }
            return taken;
        }

        private void between(Tree tree, Whole[] worth, int node, int level, int pair) {
            trial.copy(worth[WAYS * node + 1 + PAIR_LOWER[pair]]);
            trial.multiply(tree.lowWeight[level][pair]);
            spare.copy(worth[WAYS * node + 1 + PAIR_UPPER[pair]]);
            spare.multiply(tree.highWeight[level][pair]);
            trial.sum(trial, spare, false);
        }

        /** Whether one stops at a node, and at none on the way to it. */
        boolean stopsFirstAt(int node) {
            int before = node;
            for (int n = 0; n < MOST_STEPS && before > 0; n++) {
                before = (before - 1) / WAYS;
                if (stopsAt[before]) {
                    return false;
                }
            }
            return stopsAt[node];
        }

        /** What is due at a node, brought to these powers of the tree's scales. */
        Whole liftedDue(Tree tree, int node, int power, int sidePower) {
            int more = Math.max(0, Math.min(power - degree, MOST_STEPS));
            int moreOfSide = Math.max(0, Math.min(sidePower - sideDegree, MOST_STEPS));
            trial.product(payoff[node], tree.power[more]);
            wide.product(trial, tree.sidePower[moreOfSide]);
            return wide;
        }

        /** Finds the law between this and another claim of the same end; whether there is one. */
        boolean findLaw(Tree tree, Table other, Ratio c, Ratio d) {
            int first = NONE;
            int unlike = NONE;
            for (int node = FIRST[end]; node < FIRST[end + 1]; node++) {
                if (tree.isNode[node]) {
                    if (first == NONE) {
                        first = node;
                    } else if (unlike == NONE
                            && Whole.compare(tree.price[node], tree.price[first]) != 0) {
                        unlike = node;
                    }
                }
            }
            if (first == NONE) {
                return false;
            }
            d.top.copy(difference(tree, other, first));
            if (unlike == NONE) {
                c.setNumber(0);
            } else {
                c.top.sum(difference(tree, other, unlike), d.top, true);
                c.low.sum(tree.price[unlike], tree.price[first], true);
            }
            for (int node = first; node < FIRST[end + 1]; node++) {
                if (tree.isNode[node] && !isOnLine(tree, other, node, first, c, d.top)) {
                    return false;
                }
            }
            finishLaw(tree, tree.price[first], other, c, d);
            return true;
        }

        /** What is due here less what is due by another claim, over the powers of both. */
        private Whole difference(Tree tree, Table other, int node) {
            int power = Math.max(degree, other.degree);
            int sidePower = Math.max(sideDegree, other.sideDegree);
            Whole here = liftedDue(tree, node, power, sidePower);
            spare.copy(here);
            Whole there = other.liftedDue(tree, node, power, sidePower);
            wide.sum(spare, there, true);
            return wide;
        }

        /** Whether a node's difference goes as the slope says from that of the first node on. */
        private boolean isOnLine(Tree tree, Table other, int node, int first, Ratio slope,
                Whole ofFirst) {
            wide.sum(difference(tree, other, node), ofFirst, true);
            spare.product(wide, slope.low);
            wide.sum(tree.price[node], tree.price[first], true);
            trial.product(wide, slope.top);
            return Whole.compare(spare, trial) == 0;
        }

        /** Makes the law of a slope, in c, and the difference at a first price, in d. */
        private void finishLaw(Tree tree, Whole price, Table other, Ratio c, Ratio d) {
            if (c.low.isBelow) {
                c.low.isBelow = false;
                c.top.isBelow = c.top.size > 0 && !c.top.isBelow;
            }
            wide.product(d.top, c.low);
            spare.product(c.top, price);
            d.top.sum(wide, spare, true);
            wide.product(tree.power[Math.max(degree, other.degree)],
                    tree.sidePower[Math.max(sideDegree, other.sideDegree)]);
            d.low.product(wide, c.low);
            spare.product(c.top, tree.power[1]);
            c.top.copy(spare);
            c.low.copy(d.low);
        }

        int orderOfHigh(Part value) {
            return orderOf(high[0], value);
        }

        int orderOfLow(Part value) {
            return orderOf(low[0], value);
        }

        private int orderOf(Whole worth, Part value) {
            trial.copy(worth);
            trial.multiply(value.low);
            spare.copy(scale[0]);
            spare.multiply(Math.abs(value.top));
            spare.isBelow = value.top < 0;
            return Whole.compare(trial, spare);
        }

        /** 0 pieces, 1 money, 2 what both cost, of the holding at a node. */
        void copyHolding(Tree tree, int node, int level, boolean isHigh, int what, Ratio out) {
            Whole[] worth = isHigh ? high : low;
            int pair = isHigh ? highPair[node] : lowPair[node];
            if (pair < 0 || pair >= PAIRS) {
                return;
            }
            Step asked = tree.step[level];
            long gap = asked.gap(PAIR_LOWER[pair], PAIR_UPPER[pair]);
            copyStock(asked, worth, node, pair, spare);
            out.low.copy(scale[level + 1]);
            if (what == 0) {
                out.top.product(spare, tree.power[1]);
                wide.product(out.low, tree.price[node]);
                out.low.copy(wide);
                out.low.multiply(gap);
                return;
            }
            copyMoney(asked, worth, node, pair, out.top);
            out.top.multiply(asked.interest.low);
            if (what == 2) {
                spare.multiply(asked.interest.top);
                out.top.sum(out.top, spare, false);
            }
            out.low.multiply(gap * asked.interest.top);
        }

        /** What the pieces of a holding cost, times scale[level + 1] and the pair's gap. */
        private void copyStock(Step asked, Whole[] worth, int node, int pair, Whole out) {
            int lower = PAIR_LOWER[pair];
            int upper = PAIR_UPPER[pair];
            out.sum(worth[WAYS * node + 1 + upper], worth[WAYS * node + 1 + lower], true);
            out.multiply(asked.factor[lower].low * asked.factor[upper].low);
        }

        /** The money of a holding with its interest, times scale[level + 1] and the pair's gap. */
        private void copyMoney(Step asked, Whole[] worth, int node, int pair, Whole out) {
            Part lower = asked.factor[PAIR_LOWER[pair]];
            Part upper = asked.factor[PAIR_UPPER[pair]];
            out.copy(worth[WAYS * node + 1 + PAIR_LOWER[pair]]);
            out.multiply(upper.top * lower.low);
            trial.copy(worth[WAYS * node + 1 + PAIR_UPPER[pair]]);
            trial.multiply(upper.low * lower.top);
            out.sum(out, trial, true);
        }

        boolean isSoundTable(Tree tree, Claim claim) {
            boolean isCertain = tree.hasTwoWays(end);
            for (int level = 0; level < end; level++) {
                for (int node = FIRST[level]; node < FIRST[level + 1]; node++) {
                    if (tree.isNode[node] && (!isInOrder(tree, claim, node, level, isCertain)
                            || !isSoundHolding(tree, node, level, true)
                            || !isSoundHolding(tree, node, level, false))) {
                        return false;
                    }
                }
            }
            return !isCertain || claim.mayStop || isSumOfWays(tree);
        }

        private boolean isInOrder(Tree tree, Claim claim, int node, int level, boolean isCertain) {
            int order = Whole.compare(low[node], high[node]);
            if (order > 0 || isCertain && order != 0) {
                return false;
            }
            if (!claim.mayStop) {
                return true;
            }
            liftDue(tree, node, level);
            return Whole.compare(trial, low[node]) <= 0;
        }

        private boolean isSoundHolding(Tree tree, int node, int level, boolean isHigh) {
            Whole[] worth = isHigh ? high : low;
            int pair = isHigh ? highPair[node] : lowPair[node];
            if (pair < 0 || pair >= PAIRS) {
                return false;
            }
            Step asked = tree.step[level];
            long gap = asked.gap(PAIR_LOWER[pair], PAIR_UPPER[pair]);
            copyMoney(asked, worth, node, pair, wide);
            copyStock(asked, worth, node, pair, stock);
            for (int way = 0; way < WAYS; way++) {
                if (asked.hasWay(way)) {
                    int order = orderNext(asked.factor[way], gap, worth[WAYS * node + 1 + way]);
                    if (isHigh ? order < 0 : order > 0) {
                        return false;
                    }
                }
            }
            between(tree, worth, node, level, pair);
            return costsTrial(asked.interest, gap, tree.common[level]);
        }

        /** Compares the holding in stock and wide with a worth at the next node by a factor. */
        private int orderNext(Part factor, long gap, Whole worth) {
            spare.copy(stock);
            spare.multiply(factor.top);
            trial.copy(wide);
            trial.multiply(factor.low);
            spare.sum(spare, trial, false);
            trial.copy(worth);
            trial.multiply(gap * factor.low);
            return Whole.compare(spare, trial);
        }

        /** Whether the holding in stock and wide costs what is in trial, which it uses up. */
        private boolean costsTrial(Part interest, long gap, long common) {
            stock.multiply(interest.top);
            wide.multiply(interest.low);
            wide.sum(wide, stock, false);
            wide.multiply(common);
            trial.multiply(gap * interest.top);
            return Whole.compare(wide, trial) == 0;
        }

        /** Whether high at the first node is the sum of dues at the end by the weights on all ways. */
        private boolean isSumOfWays(Tree tree) {
            spare.set(0);
            for (int node = FIRST[end]; node < FIRST[end + 1]; node++) {
                if (tree.isNode[node]) {
                    trial.copy(payoff[node]);
                    int at = node;
                    for (int level = end - 1; level >= 0; level--) {
                        boolean isUp = (at - 1) % WAYS == UP;
                        trial.multiply(isUp ? tree.highWeight[level][OUTER_PAIR]
                                : tree.lowWeight[level][OUTER_PAIR]);
                        at = (at - 1) / WAYS;
                    }
                    spare.sum(spare, trial, false);
                }
            }
            return Whole.compare(spare, high[0]) == 0;
        }
    }

    /** What a play has come to, by all of its days. */
    private static final class Play {
        final Ratio money;
        final Ratio pieces;
        final Ratio fees;
        final Ratio spare;
        final Ratio hand;
        final Ratio other;
        int node;
        int level;
        boolean isFresh;

        Play() {
            money = new Ratio();
            pieces = new Ratio();
            fees = new Ratio();
            spare = new Ratio();
            hand = new Ratio();
            other = new Ratio();
            node = 0;
            level = 0;
            isFresh = false;
        }

        void freshen(State state, Tree tree, Table table, Reckoner reckoner) {
            if (isFresh) {
                return;
            }
            isFresh = true;
            node = 0;
            level = 0;
            pieces.setNumber(0);
            fees.setNumber(0);
            money.top.copy(table.high[0]);
            money.low.copy(table.scale[0]);
            reckoner.reduce(money);
            exchange(state.playFee[0], tree, table, reckoner);
            for (int n = 0; n < state.playDays && n < table.end; n++) {
                passDay(state.wayOfDay(n), tree, reckoner);
                if (level < table.end) {
                    exchange(state.playFee[level], tree, table, reckoner);
                }
            }
            if (state.isOver) {
                settle(tree, table, reckoner);
            }
            spare.copyRatio(money);
            if (!state.isOver) {
                table.copyHolding(tree, node, level, true, 1, hand);
                reckoner.reduce(hand);
                reckoner.sumRatios(spare, spare, hand, true);
            }
        }

        /** Makes the pieces those of the holding, for its price and a fee. */
        private void exchange(Part fee, Tree tree, Table table, Reckoner reckoner) {
            table.copyHolding(tree, node, level, true, 0, hand);
            reckoner.reduce(hand);
            other.copyRatio(pieces);
            pieces.copyRatio(hand);
            reckoner.sumRatios(hand, hand, other, true);
            tree.copyPrice(other, node, level, 0);
            reckoner.times(hand, hand, other);
            reckoner.sumRatios(money, money, hand, true);
            other.setPart(fee);
            reckoner.times(hand, hand, other);
            hand.top.isBelow = false;
            reckoner.sumRatios(money, money, hand, true);
            reckoner.sumRatios(fees, fees, hand, false);
        }

        private void passDay(int way, Tree tree, Reckoner reckoner) {
            hand.setPart(tree.step[level].interest);
            reckoner.times(money, money, hand);
            node = WAYS * node + 1 + way;
            level++;
            tree.copyPrice(hand, node, level, 5);
            reckoner.times(hand, hand, pieces);
            reckoner.sumRatios(money, money, hand, false);
        }

        private void settle(Tree tree, Table table, Reckoner reckoner) {
            tree.copyPrice(hand, node, level, 0);
            reckoner.times(hand, hand, pieces);
            reckoner.sumRatios(money, money, hand, false);
            pieces.setNumber(0);
            hand.top.copy(table.payoff[node]);
            hand.low.copy(table.scale[table.end]);
            reckoner.reduce(hand);
            reckoner.sumRatios(money, money, hand, true);
        }
    }

    /** Reckons with fractions; what it makes is in lowest terms. */
    private static final class Reckoner {
        private Whole one;
        private Whole two;
        private final Whole three;
        private final Whole quotient;
        private final Whole scaled;

        Reckoner() {
            one = new Whole(WIDE_ROOM);
            two = new Whole(WIDE_ROOM);
            three = new Whole(WIDE_ROOM);
            quotient = new Whole(WIDE_ROOM);
            scaled = new Whole(WIDE_ROOM);
        }

        void reduce(Ratio ratio) {
            if (ratio.top.size == 0) {
                ratio.low.set(1);
                return;
            }
            one.copy(ratio.top);
            one.isBelow = false;
            two.copy(ratio.low);
            for (int n = 0; n < MOST_ROUNDS && two.size > 0; n++) {
                if (one.isShort() && two.isShort()) {
                    one.set(Part.common(one.asLong(), two.asLong()));
                    two.set(0);
                } else {
                    one.divide(two, quotient, scaled);
                    Whole rest = one;
                    one = two;
                    two = rest;
                }
            }
            if (!one.isOne()) {
                boolean isBelow = ratio.top.isBelow;
                ratio.top.divide(one, quotient, scaled);
                ratio.top.copy(quotient);
                ratio.top.isBelow = isBelow;
                ratio.low.divide(one, quotient, scaled);
                ratio.low.copy(quotient);
            }
        }

        void sumRatios(Ratio out, Ratio a, Ratio b, boolean isLess) {
            one.product(a.top, b.low);
            two.product(b.top, a.low);
            three.product(a.low, b.low);
            out.top.sum(one, two, isLess);
            out.low.copy(three);
            reduce(out);
        }

        void times(Ratio out, Ratio a, Ratio b) {
            one.product(a.top, b.top);
            two.product(a.low, b.low);
            out.top.copy(one);
            out.low.copy(two);
            reduce(out);
        }
    }
}
