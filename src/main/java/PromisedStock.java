import java.util.Arrays;
import java.util.NoSuchElementException;

/** A network of depots that promise times. What each method must do stands in the project's document. */
public final class PromisedStock {
    public static final int NONE = -1;

    private static final int STAGES = 12;
    private static final int LETTERS = 6;
    private static final int TIMES = 120;
    private static final int CALENDAR = 40;
    private static final int TAPE = 400;
    private static final int FED_AT_ONCE = 20;
    private static final int LONGEST_QUESTION = 200;
    private static final int MOST_BOUND_DAYS = 999;
    private static final int MOST_DEMAND = 999;
    private static final int MOST_EVEN = 20;
    private static final int MOST_Z = 400;
    private static final int FIRST_Z = 165;
    private static final int NO_NUMBER = -1000000;
    private static final int NO_ANSWER = -1000000000;

    // What is told of a STAGE, in the numbers that stage() and change() give it.
    private static final int DAYS = 0;
    private static final int COST = 1;
    private static final int OUTER = 2;
    private static final int MEAN = 3;
    private static final int SPREAD = 4;
    private static final int PROMISE = 5;
    private static final int PIN = 6;
    private static final int TOLD = 7;
    private static final int[] MOST = {9, 999, 9, 99, 9999, 20, 119};

    // The ACTS that no number of what is told stands for.
    private static final int CHANGED_Z = 7;
    private static final int ADDED_STAGE = 8;
    private static final int ADDED_SUPPLY = 9;

    private final Tokens tokens = new Tokens();
    private final Net net = new Net();
    private final Net draft = new Net();
    private final Net kept = new Net();
    private final Acts acts = new Acts();
    private final Best best = new Best();
    private final Ledger ledger = new Ledger();
    private final Telling telling = new Telling(tokens, draft);
    private final Question question = new Question(tokens, net);
    private final int[] evens = new int[MOST_EVEN + 1];
    private int evensKnown = 0;
    private int evensSettled = 0;
    private boolean somethingKept = false;
    private int faultPlace = NONE;

    public PromisedStock() {
    }

    public int feed(int a, int b, int c, int d, int e) {
        if (tokens.fed + FED_AT_ONCE > TAPE) {
            return NONE;
        }
        tokens.put(a);
        tokens.put(b);
        tokens.put(c);
        tokens.put(d);
        tokens.put(e);
        return tokens.fed;
    }

    public int network(int n) throws IllegalArgumentException {
        if (n < 0 || n > tokens.fed) {
            throw new IllegalArgumentException("the tape has not so many bytes");
        }
        int fault = telling.read(n);
        endReading(fault);
        if (fault != 0) {
            return -10 - fault;
        }
        net.become(draft);
        acts.forget();
        return net.count;
    }

    public int fault() {
        return faultPlace;
    }

    public int count(int what) throws NoSuchElementException {
        switch (what) {
            case 0:
                return net.count;
            case 1:
                return net.supplyCount();
            case 2:
                return net.z;
            case 3:
                // Without rings each supply joins two parts to one.
                return net.count - net.supplyCount();
            case 4:
                return net.pinCount();
            case 5:
                return acts.size;
            case 6:
                return tokens.fed;
            default:
                throw new NoSuchElementException("no such count");
        }
    }

    public int letter(int stage, int k) throws NoSuchElementException {
        checkStage(stage);
        if (k < 0 || k >= LETTERS) {
            throw new NoSuchElementException("no such letter");
        }
        return net.names[stage * LETTERS + k];
    }

    public int stage(int stage, int what) throws NoSuchElementException {
        checkStage(stage);
        checkWhat(what, 12);
        switch (what) {
            case 7:
                return net.flow[stage];
            case 8:
                return net.width[stage];
            case 9:
                return net.longest[stage];
            case 10:
                return net.suppliers[stage];
            case 11:
                return net.customers[stage];
            default:
                return net.told(stage, what);
        }
    }

    public int bound(int stage, int how, int n) throws NoSuchElementException, IllegalArgumentException {
        checkStage(stage);
        checkWhat(how, 2);
        if (n < 0 || n > MOST_BOUND_DAYS) {
            throw new IllegalArgumentException("no such number of days");
        }
        return how == 0 ? net.rootBy(stage, n) : net.boundBy(stage, n);
    }

    public int change(int stage, int what, int v) throws NoSuchElementException, IllegalArgumentException {
        checkWhat(what, 7);
        if (what == 6) {
            return changeZ(v);
        }
        checkStage(stage);
        return changeTold(stage, what, v);
    }

    public int add(int stage, boolean up, int days, int cost) {
        if (net.count >= STAGES || !isStage(stage) || !fits(DAYS, days) || !fits(COST, cost)) {
            return NONE;
        }
        int added = net.grow();
        net.tell(added, DAYS, days);
        net.tell(added, COST, cost);
        if (up) {
            net.join(added, stage);
        } else {
            net.join(stage, added);
        }
        net.settle();
        acts.note(ADDED_STAGE, added, 0);
        return added;
    }

    public int supply(int from, int to) {
        if (!isStage(from) || !isStage(to) || net.areInOnePart(from, to)) {
            return NONE;
        }
        net.join(from, to);
        net.settle();
        acts.note(ADDED_SUPPLY, from, to);
        return net.supplyCount();
    }

    public int pin(int stage, int time) throws NoSuchElementException, IllegalArgumentException {
        checkStage(stage);
        return changeTold(stage, PIN, time);
    }

    public int undo() {
        if (acts.size == 0) {
            return NONE;
        }
        int slot = acts.takeLatest();
        takeBack(acts.kind[slot], acts.stage[slot], acts.was[slot]);
        net.settle();
        return acts.size;
    }

    public int take(int rule) {
        if (rule < 0 || rule > 3) {
            return NONE;
        }
        if (rule == 2 && best.leastPrice(net) == NONE) {
            return NONE;
        }
        switch (rule) {
            case 1:
                net.planLazily();
                break;
            case 2:
                takeBest();
                break;
            case 3:
                net.planHalf();
                break;
            default:
                net.planZero();
                break;
        }
        return net.firstNotHolding() == NONE ? net.priceAtHand() : -2;
    }

    public int promise(int stage, int time) throws NoSuchElementException, IllegalArgumentException {
        checkStage(stage);
        checkTime(time);
        int was = net.time[stage];
        net.time[stage] = time;
        return was;
    }

    public int planned(int stage, int what) throws NoSuchElementException {
        checkStage(stage);
        checkWhat(what, 6);
        return net.byPlan(stage, what);
    }

    public int plan(int what) throws NoSuchElementException {
        checkWhat(what, 3);
        switch (what) {
            case 0:
                return net.firstNotHolding() == NONE ? net.priceAtHand() : NONE;
            case 1:
                return net.firstNotHolding();
            default:
                return net.holding();
        }
    }

    public int least() {
        return best.leastPrice(net);
    }

    public int worth(int stage, int what) throws NoSuchElementException {
        checkStage(stage);
        checkWhat(what, 3);
        int changed = what == 0 ? DAYS : what == 1 ? PROMISE : PIN;
        int now = net.told(stage, changed);
        if (now == (what == 0 ? 0 : NONE)) {
            return 0;
        }
        int then = what == 0 ? now - 1 : what == 1 ? now + 1 : NONE;
        int priceNow = best.leastPrice(net);
        int priceThen = priceWith(stage, changed, then);
        return priceNow == NONE || priceThen == NONE ? NO_NUMBER : priceNow - priceThen;
    }

    public int even(int p) throws IllegalArgumentException {
        if (p < 0 || p > MOST_EVEN) {
            throw new IllegalArgumentException("no such promise");
        }
        return evenPrice(p);
    }

    public int budget(int price) {
        for (int p = 0; p <= MOST_EVEN; p++) {
            int needed = evenPrice(p);
            if (needed != NONE && needed <= price) {
                return p;
            }
        }
        return NONE;
    }

    public int pinned(int stage, int time) throws NoSuchElementException, IllegalArgumentException {
        checkStage(stage);
        checkTime(time);
        return priceWith(stage, PIN, time);
    }

    public int demand(int stage, int day, int v) throws NoSuchElementException, IllegalArgumentException {
        checkStage(stage);
        checkDay(day);
        if (v < 0 || v > MOST_DEMAND) {
            throw new IllegalArgumentException("no such demand");
        }
        int at = stage * CALENDAR + day;
        int was = net.demands[at];
        net.demands[at] = v;
        return was;
    }

    public int drawn(int stage, int seed) throws NoSuchElementException {
        checkStage(stage);
        int n = 2 * net.told(stage, MEAN) + 1;
        int x = seed;
        int together = 0;
        for (int day = 0; day < CALENDAR; day++) {
            x = x * 1103515245 + 12345;
            int draw = n > 0 ? (x >>> 16 & 32767) % n : 0;
            net.demands[stage * CALENDAR + day] = draw;
            together += draw;
        }
        return together;
    }

    public int day(int stage, int day, int what) throws NoSuchElementException {
        checkStage(stage);
        checkDay(day);
        checkWhat(what, 4);
        ledger.open(net, stage);
        switch (what) {
            case 0:
                return net.demands[stage * CALENDAR + day];
            case 1:
                return ledger.calledOn(day, day);
            case 2:
                return ledger.netDays < 0 ? NO_NUMBER : ledger.onHand(day);
            default:
                ledger.openBounds(net, stage);
                return ledger.longestBreak(day);
        }
    }

    public int days(int stage, int what) throws NoSuchElementException {
        checkStage(stage);
        checkWhat(what, 3);
        ledger.open(net, stage);
        if (what == 1) {
            ledger.openBounds(net, stage);
            return ledger.firstBreak();
        }
        if (ledger.netDays < 0) {
            return what == 0 ? NONE : NO_NUMBER;
        }
        return what == 0 ? ledger.shortDays() : ledger.leastOnHand();
    }

    public int ask(int n) throws IllegalArgumentException {
        if (n < 0 || n > LONGEST_QUESTION || n > tokens.fed) {
            throw new IllegalArgumentException("the tape has not so many bytes, or they are too many");
        }
        int fault = question.read(n);
        endReading(fault);
        return fault == 0 ? question.answer() : NO_ANSWER - fault;
    }

    public int chain(int stage, int k) throws NoSuchElementException {
        checkStage(stage);
        int at = stage;
        int size = 0;
        for (int i = 0; i < STAGES && at != NONE; i++) {
            if (size == k) {
                return at;
            }
            size++;
            at = net.aheadInChain(at);
        }
        if (k != NONE) {
            throw new NoSuchElementException("no such stage of the chain");
        }
        return size;
    }

    public int frontier(int k) throws NoSuchElementException {
        if (k < NONE || k > MOST_EVEN) {
            throw new NoSuchElementException("no such promise of the frontier");
        }
        int size = 0;
        int leastSoFar = NONE;
        for (int p = 0; p <= MOST_EVEN; p++) {
            int price = evenPrice(p);
            if (price != NONE && (leastSoFar == NONE || price < leastSoFar)) {
                leastSoFar = price;
                if (size == k) {
                    return p;
                }
                size++;
            }
        }
        if (k != NONE) {
            throw new NoSuchElementException("no such promise of the frontier");
        }
        return size;
    }

    public void image() {
        kept.become(net);
        somethingKept = true;
    }

    public boolean back() {
        if (!somethingKept) {
            return false;
        }
        net.become(kept);
        acts.forget();
        return true;
    }

    private boolean isStage(int stage) {
        return stage >= 0 && stage < net.count;
    }

    private void checkStage(int stage) {
        if (!isStage(stage)) {
            throw new NoSuchElementException("no such stage");
        }
    }

    private static void checkWhat(int what, int choices) {
        if (what < 0 || what >= choices) {
            throw new NoSuchElementException("nothing bears this number");
        }
    }

    private static void checkDay(int day) {
        if (day < 0 || day >= CALENDAR) {
            throw new NoSuchElementException("no such day");
        }
    }

    private static void checkTime(int time) {
        if (time < 0 || time >= TIMES) {
            throw new IllegalArgumentException("no such time");
        }
    }

    /** Only a PROMISE and a PIN may be missing. */
    private static boolean fits(int what, int v) {
        int least = what == PROMISE || what == PIN ? NONE : 0;
        return what >= 0 && what < MOST.length && v >= least && v <= MOST[what];
    }

    private void endReading(int fault) {
        faultPlace = fault == 0 ? NONE : tokens.start;
        tokens.fed = 0;
    }

    private int changeZ(int v) {
        if (v < 0 || v > MOST_Z) {
            throw new IllegalArgumentException("no such Z");
        }
        int was = net.z;
        net.z = v;
        net.settle();
        acts.note(CHANGED_Z, 0, was);
        return was;
    }

    private int changeTold(int stage, int what, int v) {
        if (!fits(what, v)) {
            throw new IllegalArgumentException("no such value");
        }
        int was = net.told(stage, what);
        net.tell(stage, what, v);
        net.settle();
        acts.note(what, stage, was);
        return was;
    }

    private void takeBack(int kind, int stage, int was) {
        switch (kind) {
            case CHANGED_Z:
                net.z = was;
                break;
            case ADDED_STAGE:
                net.shrink();
                break;
            case ADDED_SUPPLY:
                net.part(stage, was);
                break;
            default:
                net.tell(stage, kind, was);
                break;
        }
    }

    private void takeBest() {
        for (int s = 0; s < net.count; s++) {
            net.time[s] = best.timeOf(s);
        }
    }

    private int priceWith(int stage, int what, int v) {
        draft.becomeNetwork(net);
        draft.tell(stage, what, v);
        draft.settle();
        return best.leastPrice(draft);
    }

    /** Found once for as long as the NETWORK stays: the FRONTIER asks for all of them again and again. */
    private int evenPrice(int p) {
        if (evensSettled != net.settled) {
            evensSettled = net.settled;
            evensKnown = 0;
        }
        if (!Net.has(evensKnown, p)) {
            draft.becomeNetwork(net);
            for (int s = 0; s < draft.count; s++) {
                draft.tell(s, PROMISE, draft.customers[s] == 0 ? p : NONE);
            }
            evens[p] = best.leastPrice(draft);
            evensKnown |= 1 << p;
        }
        return evens[p];
    }

    /** A NETWORK with its PINS, the PLAN at hand and the DEMANDS. */
    private static final class Net {
        final int[] told = new int[STAGES * TOLD];
        final int[] names = new int[STAGES * LETTERS];
        final int[] suppliers = new int[STAGES];
        final int[] customers = new int[STAGES];
        final int[] time = new int[STAGES];
        final int[] demands = new int[STAGES * CALENDAR];
        // What follows from the rest: settle() keeps it true.
        final int[] order = new int[STAGES];
        final int[] flow = new int[STAGES];
        final int[] width = new int[STAGES];
        final int[] longest = new int[STAGES];
        int count = 0;
        int z = FIRST_Z;
        // Another number after each change of what BEST hangs on.
        int settled = 0;

        int told(int stage, int what) {
            return told[stage * TOLD + what];
        }

        void tell(int stage, int what, int v) {
            told[stage * TOLD + what] = v;
        }

        boolean supplies(int from, int to) {
            return (suppliers[to] >> from & 1) != 0;
        }

        void empty() {
            count = 0;
            z = FIRST_Z;
            Arrays.fill(names, 0);
            Arrays.fill(suppliers, 0);
            Arrays.fill(customers, 0);
            Arrays.fill(time, 0);
            Arrays.fill(demands, 0);
        }

        void become(Net other) {
            becomeNetwork(other);
            System.arraycopy(other.names, 0, names, 0, names.length);
            System.arraycopy(other.time, 0, time, 0, time.length);
            System.arraycopy(other.demands, 0, demands, 0, demands.length);
        }

        /** All that BEST hangs on. */
        void becomeNetwork(Net other) {
            count = other.count;
            z = other.z;
            System.arraycopy(other.told, 0, told, 0, told.length);
            System.arraycopy(other.suppliers, 0, suppliers, 0, suppliers.length);
            System.arraycopy(other.customers, 0, customers, 0, customers.length);
            settle();
        }

        /** A STAGE more, of which nothing is told yet; the caller has seen that there is room. */
        int grow() {
            int added = count;
            if (added >= STAGES) {
                return NONE;
            }
            for (int what = 0; what < TOLD; what++) {
                tell(added, what, what == PROMISE || what == PIN ? NONE : 0);
            }
            count++;
            return added;
        }

        /** The last STAGE goes, and all that a later one of its number must not find. */
        void shrink() {
            if (count == 0) {
                return;
            }
            count--;
            for (int s = 0; s < STAGES; s++) {
                part(s, count);
                part(count, s);
            }
            for (int k = 0; k < LETTERS; k++) {
                names[count * LETTERS + k] = 0;
            }
            time[count] = 0;
            for (int day = 0; day < CALENDAR; day++) {
                demands[count * CALENDAR + day] = 0;
            }
        }

        void join(int from, int to) {
            suppliers[to] |= 1 << from;
            customers[from] |= 1 << to;
        }

        void part(int from, int to) {
            suppliers[to] &= ~(1 << from);
            customers[from] &= ~(1 << to);
        }

        boolean areInOnePart(int a, int b) {
            int part = 1 << a;
            for (int round = 0; round < count; round++) {
                for (int s = 0; s < count; s++) {
                    part |= has(part, s) ? suppliers[s] | customers[s] : 0;
                }
            }
            return has(part, b);
        }

        int supplyCount() {
            int together = 0;
            for (int s = 0; s < count; s++) {
                together += Integer.bitCount(suppliers[s]);
            }
            return together;
        }

        int pinCount() {
            int together = 0;
            for (int s = 0; s < count; s++) {
                together += told(s, PIN) == NONE ? 0 : 1;
            }
            return together;
        }

        void settle() {
            settled++;
            sortSuppliersAhead();
            for (int i = 0; i < count; i++) {
                settleLongest(order[i]);
            }
            for (int i = count - 1; i >= 0; i--) {
                settleFlow(order[i]);
            }
        }

        private void sortSuppliersAhead() {
            int sorted = 0;
            int size = 0;
            for (int round = 0; round < count && size < count; round++) {
                for (int s = 0; s < count; s++) {
                    if (size < STAGES && !has(sorted, s) && (suppliers[s] & ~sorted) == 0) {
                        order[size] = s;
                        size++;
                        sorted |= 1 << s;
                    }
                }
            }
        }

        private void settleLongest(int stage) {
            int ahead = told(stage, OUTER);
            for (int s = 0; s < count; s++) {
                if (supplies(s, stage)) {
                    ahead = Math.max(ahead, longest[s]);
                }
            }
            // Rows go by TIMES up to LONGEST: with the most DAYS and OUTER of all it is 117.
            longest[stage] = Math.min(ahead + told(stage, DAYS), TIMES - 1);
        }

        private void settleFlow(int stage) {
            flow[stage] = told(stage, MEAN);
            width[stage] = told(stage, SPREAD);
            for (int s = 0; s < count; s++) {
                if (supplies(stage, s)) {
                    flow[stage] += flow[s];
                    width[stage] += width[s];
                }
            }
        }

        int rootBy(int stage, int n) {
            return rootFrom(0, stage, n);
        }

        /** ROOT, that of fewer days being known (or 0): a row of them is found in few steps. */
        int rootFrom(int fewer, int stage, int n) {
            long square = (long) z * z * width[stage] * n;
            int low = fewer;
            int high = fewer;
            // Steps of 1, 2, 4, ..: 20 of them lead far above the root of the greatest Z, WIDTH and number of days.
            for (int step = 0; step < 20 && 10000L * high * high < square; step++) {
                low = high + 1;
                high += 1 << step;
            }
            for (int i = 0; i < 20 && low < high; i++) {
                int x = (low + high) / 2;
                if (10000L * x * x >= square) {
                    high = x;
                } else {
                    low = x + 1;
                }
            }
            return low;
        }

        int boundBy(int stage, int n) {
            return n * flow[stage] + rootBy(stage, n);
        }

        int waitOf(int stage) {
            int latest = told(stage, OUTER);
            for (int s = 0; s < count; s++) {
                if (supplies(s, stage)) {
                    latest = Math.max(latest, time[s]);
                }
            }
            return latest;
        }

        int netOf(int stage) {
            return waitOf(stage) + told(stage, DAYS) - time[stage];
        }

        /** What planned() answers. */
        int byPlan(int stage, int what) {
            int days = netOf(stage);
            switch (what) {
                case 0:
                    return time[stage];
                case 1:
                    return waitOf(stage);
                case 2:
                    return days;
                case 3:
                    return days < 0 ? NONE : rootBy(stage, days);
                case 4:
                    return days < 0 ? NONE : boundBy(stage, days);
                default:
                    return days < 0 ? NONE : told(stage, COST) * rootBy(stage, days);
            }
        }

        int firstNotHolding() {
            for (int s = 0; s < count; s++) {
                int most = told(s, PROMISE);
                int pin = told(s, PIN);
                if (netOf(s) < 0 || most != NONE && time[s] > most || pin != NONE && time[s] != pin) {
                    return s;
                }
            }
            return NONE;
        }

        /** PRICE of the PLAN at hand, if it HOLDS. */
        int priceAtHand() {
            int together = 0;
            for (int s = 0; s < count; s++) {
                together += byPlan(s, 5);
            }
            return together;
        }

        int holding() {
            int bits = 0;
            for (int s = 0; s < count; s++) {
                bits |= byPlan(s, 3) > 0 ? 1 << s : 0;
            }
            return bits;
        }

        void planZero() {
            for (int s = 0; s < count; s++) {
                time[s] = 0;
            }
        }

        void planLazily() {
            for (int i = 0; i < count; i++) {
                int s = order[i];
                int latest = waitOf(s) + told(s, DAYS);
                latest = told(s, PROMISE) == NONE ? latest : Math.min(latest, told(s, PROMISE));
                time[s] = told(s, PIN) == NONE ? latest : Math.min(latest, told(s, PIN));
            }
        }

        void planHalf() {
            planLazily();
            for (int s = 0; s < count; s++) {
                time[s] = told(s, PIN) == NONE ? time[s] / 2 : told(s, PIN);
            }
        }

        /** The STAGE itself and all that hangs on it: without rings each is met once. */
        int allBelow(int stage) {
            int below = 1 << stage;
            for (int i = 0; i < count; i++) {
                below |= has(below, order[i]) ? customers[order[i]] : 0;
            }
            return below;
        }

        /** The next STAGE of a CHAIN; NONE: it ends here. */
        int aheadInChain(int stage) {
            int ahead = NONE;
            for (int s = 0; s < count; s++) {
                if (supplies(s, stage) && (ahead == NONE || longest[s] > longest[ahead])) {
                    ahead = s;
                }
            }
            boolean goesOn = ahead != NONE && longest[ahead] + told(stage, DAYS) == longest[stage];
            return goesOn ? ahead : NONE;
        }

        static boolean has(int bits, int s) {
            return (bits >> s & 1) != 0;
        }
    }

    /** The latest ACTS, in a ring: the oldest one gives way to a new one. */
    private static final class Acts {
        static final int MOST_KEPT = 20;
        final int[] kind = new int[MOST_KEPT];
        final int[] stage = new int[MOST_KEPT];
        final int[] was = new int[MOST_KEPT];
        int size = 0;
        private int next = 0;

        void note(int newKind, int newStage, int newWas) {
            kind[next] = newKind;
            stage[next] = newStage;
            was[next] = newWas;
            next = next == MOST_KEPT - 1 ? 0 : next + 1;
            size = Math.min(size + 1, MOST_KEPT);
        }

        /** The place of the latest one, which isn't kept any more. */
        int takeLatest() {
            next = next == 0 ? MOST_KEPT - 1 : next - 1;
            size = Math.max(size - 1, 0);
            return next;
        }

        void forget() {
            size = 0;
        }
    }

    /** The tape, and the TOKENS of a text on it. */
    private static final class Tokens {
        static final int END = 0;
        static final int WORD = 1;
        static final int NUMBER = 2;
        static final int SIGN = 3;
        // Above all NUMBERS that can stand anywhere.
        static final int TOO_GREAT = 1000000;

        final int[] tape = new int[TAPE];
        int fed = 0;
        int end = 0;
        int start = 0;
        int stop = 0;
        int kind = END;

        void put(int bytes) {
            for (int shift = 24; shift >= 0 && fed < TAPE; shift -= 8) {
                tape[fed] = bytes >>> shift & 255;
                fed++;
            }
        }

        void open(int n) {
            end = Math.min(n, TAPE);
            stop = 0;
            advance();
        }

        void advance() {
            start = stop;
            while (start < end && (tape[start] == 32 || tape[start] == 10)) {
                start++;
            }
            kind = start < end ? kindOf(tape[start]) : END;
            stop = Math.min(start + 1, end);
            if (kind == WORD || kind == NUMBER) {
                while (stop < end && kindOf(tape[stop]) == kind) {
                    stop++;
                }
            }
        }

        boolean isSign(char sign) {
            return kind == SIGN && tape[start] == sign;
        }

        boolean skipWord(String wordAndBlank) {
            boolean there = among(wordAndBlank) == 0;
            if (there) {
                advance();
            }
            return there;
        }

        /** The place of the WORD in a list of words, each with a blank behind it; NONE: it isn't there. */
        int among(String words) {
            if (kind != WORD) {
                return NONE;
            }
            int place = 0;
            int at = start;
            boolean same = true;
            for (int i = 0; i < words.length(); i++) {
                if (words.charAt(i) != ' ') {
                    same = same && at < stop && tape[at] == words.charAt(i);
                    at++;
                } else if (same && at == stop) {
                    return place;
                } else {
                    place++;
                    at = start;
                    same = true;
                }
            }
            return NONE;
        }

        int number() {
            int value = 0;
            for (int i = start; i < stop; i++) {
                value = Math.min(value * 10 + tape[i] - '0', TOO_GREAT);
            }
            return value;
        }

        private static int kindOf(int sign) {
            if (sign >= 'a' && sign <= 'z') {
                return WORD;
            }
            return sign >= '0' && sign <= '9' ? NUMBER : SIGN;
        }
    }

    /** Reads a NETWORK into a draft: what was stays till all of the text is found good. */
    private static final class Telling {
        static final String NO_NAMES = "stage outer demand promise from z ";
        final Tokens tokens;
        final Net draft;
        int fault = 0;

        Telling(Tokens tokens, Net draft) {
            this.tokens = tokens;
            this.draft = draft;
        }

        /** The FAULT (0: none); the TOKEN at which it is stays the one at hand. */
        int read(int n) {
            fault = 0;
            draft.empty();
            tokens.open(n);
            for (int i = 0; i < TAPE && fault == 0 && tokens.kind != Tokens.END; i++) {
                if (readLine() && endLine()) {
                    tokens.advance();
                }
            }
            draft.settle();
            return fault;
        }

        private boolean readLine() {
            switch (tokens.among("stage from z ")) {
                case 0:
                    return readStage();
                case 1:
                    return readFrom();
                case 2:
                    return readZ();
                default:
                    return refuse(1);
            }
        }

        private boolean endLine() {
            return tokens.isSign(';') || refuse(1);
        }

        private boolean readStage() {
            if (draft.count >= STAGES) {
                return refuse(5);
            }
            tokens.advance();
            return readNewName() && readTold(DAYS) && readTold(COST)
                && (!tokens.skipWord("outer ") || readTold(OUTER))
                && (!tokens.skipWord("demand ") || readTold(MEAN) && readTold(SPREAD))
                && (!tokens.skipWord("promise ") || readTold(PROMISE));
        }

        private boolean readNewName() {
            if (!isName()) {
                return refuse(1);
            }
            if (findName() != NONE) {
                return refuse(3);
            }
            int added = draft.grow();
            for (int k = 0; k < LETTERS && added != NONE; k++) {
                draft.names[added * LETTERS + k] = letterAt(tokens.start + k);
            }
            tokens.advance();
            return true;
        }

        private boolean readTold(int what) {
            if (tokens.kind != Tokens.NUMBER) {
                return refuse(1);
            }
            if (!fits(what, tokens.number())) {
                return refuse(2);
            }
            draft.tell(draft.count - 1, what, tokens.number());
            tokens.advance();
            return true;
        }

        private boolean readZ() {
            tokens.advance();
            if (tokens.kind != Tokens.NUMBER) {
                return refuse(1);
            }
            if (tokens.number() > MOST_Z) {
                return refuse(2);
            }
            draft.z = tokens.number();
            tokens.advance();
            return true;
        }

        private boolean readFrom() {
            tokens.advance();
            if (!isToldName()) {
                return false;
            }
            int from = findName();
            tokens.advance();
            if (!isToldName()) {
                return false;
            }
            int to = findName();
            if (draft.areInOnePart(from, to)) {
                return refuse(4);
            }
            draft.join(from, to);
            tokens.advance();
            return true;
        }

        private boolean isToldName() {
            if (!isName()) {
                return refuse(1);
            }
            return findName() != NONE || refuse(3);
        }

        private boolean isName() {
            return tokens.kind == Tokens.WORD && tokens.stop - tokens.start <= LETTERS
                && tokens.among(NO_NAMES) == NONE;
        }

        private int findName() {
            for (int s = 0; s < draft.count; s++) {
                boolean same = true;
                for (int k = 0; k < LETTERS; k++) {
                    same = same && draft.names[s * LETTERS + k] == letterAt(tokens.start + k);
                }
                if (same) {
                    return s;
                }
            }
            return NONE;
        }

        /** 1 to 26; 0 behind the WORD at hand. */
        private int letterAt(int i) {
            return i < tokens.stop ? tokens.tape[i] - 'a' + 1 : 0;
        }

        private boolean refuse(int which) {
            fault = which;
            return false;
        }
    }

    /** Reads a QUESTION into marks, what is worked on ahead of what is done with it, and answers it by them. */
    private static final class Question {
        static final String ASKED = "many first total most least ";
        static final String VALUES = "number days cost outer mean spread promise pin flow width longest suppliers customers time wait net held base price ";
        static final int MOST_OPEN = 6;
        static final int MOST_NUMBER = 9999;
        static final int STACK = 64;
        // Marks below are VALUES by their place in the list, marks from FIGURES on are NUMBERS.
        static final int TIMES_MARK = 30;
        static final int PLUS = 31;
        static final int MINUS = 32;
        static final int LESS = 33;
        static final int SAME = 34;
        static final int MORE = 35;
        static final int NOT = 36;
        static final int AND = 37;
        static final int OR = 38;
        static final int FIGURES = 100;

        final Tokens tokens;
        final Net net;
        final int[] marks = new int[LONGEST_QUESTION];
        final int[] stack = new int[STACK];
        int size = 0;
        int asked = 0;
        int fault = 0;

        Question(Tokens tokens, Net net) {
            this.tokens = tokens;
            this.net = net;
        }

        /** The FAULT (0: none); the TOKEN at which it is stays the one at hand. */
        int read(int n) {
            fault = 0;
            size = 0;
            tokens.open(n);
            asked = tokens.among(ASKED);
            if (asked == NONE) {
                return 1;
            }
            tokens.advance();
            boolean read = asked < 2 ? readTest(0) : readSum(0);
            if (read && tokens.kind != Tokens.END) {
                fault = 1;
            }
            return fault;
        }

        private boolean readTest(int open) {
            for (int i = 0; i < LONGEST_QUESTION; i++) {
                if (!readFact(open)) {
                    return false;
                }
                for (int k = 0; k < LONGEST_QUESTION && tokens.skipWord("and "); k++) {
                    if (!readFact(open)) {
                        return false;
                    }
                    mark(AND);
                }
                if (i > 0) {
                    mark(OR);
                }
                if (!tokens.skipWord("or ")) {
                    return true;
                }
            }
            return refuse(1);
        }

        private boolean readFact(int open) {
            boolean not = tokens.among("not ") == 0;
            if (not || tokens.isSign('{')) {
                if (open >= MOST_OPEN) {
                    return refuse(3);
                }
                tokens.advance();
                if (not) {
                    return readFact(open + 1) && mark(NOT);
                }
                if (!readTest(open + 1)) {
                    return false;
                }
                if (!tokens.isSign('}')) {
                    return refuse(1);
                }
                tokens.advance();
                return true;
            }
            if (!readSum(open)) {
                return false;
            }
            int how = tokens.isSign('<') ? LESS : tokens.isSign('=') ? SAME : tokens.isSign('>') ? MORE : NONE;
            if (how == NONE) {
                return refuse(1);
            }
            tokens.advance();
            return readSum(open) && mark(how);
        }

        private boolean readSum(int open) {
            int sign = NONE;
            for (int i = 0; i < LONGEST_QUESTION; i++) {
                if (!readPart(open)) {
                    return false;
                }
                for (int k = 0; k < LONGEST_QUESTION && tokens.isSign('*'); k++) {
                    tokens.advance();
                    if (!readPart(open)) {
                        return false;
                    }
                    mark(TIMES_MARK);
                }
                if (sign != NONE) {
                    mark(sign);
                }
                sign = tokens.isSign('+') ? PLUS : tokens.isSign('-') ? MINUS : NONE;
                if (sign == NONE) {
                    return true;
                }
                tokens.advance();
            }
            return refuse(1);
        }

        private boolean readPart(int open) {
            if (tokens.isSign('(')) {
                if (open >= MOST_OPEN) {
                    return refuse(3);
                }
                tokens.advance();
                if (!readSum(open + 1)) {
                    return false;
                }
                if (!tokens.isSign(')')) {
                    return refuse(1);
                }
            } else if (!markPart()) {
                return false;
            }
            tokens.advance();
            return true;
        }

        private boolean markPart() {
            if (tokens.kind == Tokens.NUMBER) {
                int number = tokens.number();
                return number <= MOST_NUMBER ? mark(FIGURES + number) : refuse(2);
            }
            int value = tokens.among(VALUES);
            return value != NONE ? mark(value) : refuse(1);
        }

        private boolean mark(int mark) {
            if (size < marks.length) {
                marks[size] = mark;
                size++;
            }
            return true;
        }

        private boolean refuse(int which) {
            fault = which;
            return false;
        }

        int answer() {
            int answer = asked == 1 ? NONE : 0;
            for (int s = 0; s < net.count; s++) {
                int found = workOut(s);
                switch (asked) {
                    case 1:
                        if (found != 0) {
                            return s;
                        }
                        break;
                    case 3:
                        answer = s == 0 ? found : Math.max(answer, found);
                        break;
                    case 4:
                        answer = s == 0 ? found : Math.min(answer, found);
                        break;
                    default:
                        // A TEST that holds is 1: how many are these together.
                        answer += found;
                        break;
                }
            }
            return answer;
        }

        private int workOut(int stage) {
            int top = 0;
            for (int i = 0; i < size; i++) {
                int mark = marks[i];
                if (mark == NOT && top > 0) {
                    stack[top - 1] = 1 - stack[top - 1];
                } else if (mark >= TIMES_MARK && mark < FIGURES && top > 1) {
                    top--;
                    stack[top - 1] = joined(mark, stack[top - 1], stack[top]);
                } else if (top < stack.length) {
                    stack[top] = mark >= FIGURES ? mark - FIGURES : valueOf(stage, mark);
                    top++;
                }
            }
            return stack[0];
        }

        private static int joined(int mark, int a, int b) {
            switch (mark) {
                case TIMES_MARK:
                    return a * b;
                case PLUS:
                    return a + b;
                case MINUS:
                    return a - b;
                case LESS:
                    return a < b ? 1 : 0;
                case SAME:
                    return a == b ? 1 : 0;
                case MORE:
                    return a > b ? 1 : 0;
                case AND:
                    return a & b;
                default:
                    return a | b;
            }
        }

        private int valueOf(int stage, int value) {
            switch (value) {
                case 0:
                    return stage;
                case 8:
                    return net.flow[stage];
                case 9:
                    return net.width[stage];
                case 10:
                    return net.longest[stage];
                case 11:
                    return Integer.bitCount(net.suppliers[stage]);
                case 12:
                    return Integer.bitCount(net.customers[stage]);
                default:
                    return value < 8 ? net.told(stage, value - 1) : net.byPlan(stage, value - 13);
            }
        }
    }

    /** What is CALLED of one STAGE through the days, and what comes of it by the PLAN at hand. */
    private static final class Ledger {
        // What is CALLED ahead of each day: a row of days is then one subtraction.
        final int[] ahead = new int[CALENDAR + 1];
        final int[] bounds = new int[CALENDAR + 1];
        int netDays = 0;
        int base = 0;
        int time = 0;

        void open(Net net, int stage) {
            netDays = net.netOf(stage);
            base = netDays < 0 ? 0 : net.boundBy(stage, netDays);
            time = net.time[stage];
            int below = net.allBelow(stage);
            for (int day = 0; day < CALENDAR; day++) {
                int called = 0;
                for (int s = 0; s < net.count; s++) {
                    called += Net.has(below, s) ? net.demands[s * CALENDAR + day] : 0;
                }
                ahead[day + 1] = ahead[day] + called;
            }
        }

        void openBounds(Net net, int stage) {
            int root = 0;
            for (int n = 0; n < bounds.length; n++) {
                root = net.rootFrom(root, stage, n);
                bounds[n] = n * net.flow[stage] + root;
            }
        }

        /** What is CALLED from one day to another one, both with it (days below 0: 0). */
        int calledOn(int from, int to) {
            return ahead[inside(to + 1)] - ahead[inside(from)];
        }

        int onHand(int day) {
            int last = day - time;
            return base - calledOn(last - netDays + 1, last);
        }

        int longestBreak(int day) {
            for (int n = day + 1; n > 0; n--) {
                if (calledOn(day - n + 1, day) > bounds[n]) {
                    return n;
                }
            }
            return 0;
        }

        int firstBreak() {
            for (int day = 0; day < CALENDAR; day++) {
                if (longestBreak(day) > 0) {
                    return day;
                }
            }
            return NONE;
        }

        int shortDays() {
            int together = 0;
            for (int day = 0; day < CALENDAR; day++) {
                together += onHand(day) < 0 ? 1 : 0;
            }
            return together;
        }

        int leastOnHand() {
            int least = onHand(0);
            for (int day = 1; day < CALENDAR; day++) {
                least = Math.min(least, onHand(day));
            }
            return least;
        }

        private static int inside(int day) {
            return Math.max(0, Math.min(day, CALENDAR));
        }
    }

    /**
     * For each of the numbers 0 to 119 what is cheapest there. Two longs tell it: PRICE and the TIMES of STAGES 0 to
     * 3, then the TIMES of 4 to 11, the highest bits first. So the least pair is BEST with its rule for like PRICES,
     * and parts that have no STAGE in common are put together by adding.
     */
    private static final class Row {
        static final int PRICE_SHIFT = 28;
        // Above all PRICES; thirteen of them together still are a long.
        static final long NEVER = 1L << 58;
        final long[] high;
        final long[] low;

        Row(int size) {
            high = new long[size];
            low = new long[size];
        }

        void put(int i, long newHigh, long newLow) {
            boolean there = newHigh < NEVER;
            high[i] = there ? newHigh : NEVER;
            low[i] = there ? newLow : 0;
        }

        void lower(int i, long newHigh, long newLow) {
            // What never is never is less: a cell holds no more than NEVER.
            if (newHigh < high[i] || newHigh == high[i] && newLow < low[i]) {
                high[i] = newHigh;
                low[i] = newLow;
            }
        }
    }

    /**
     * Finds BEST. Each part of the NETWORK is a tree: its STAGES are gone through from the outside to the first one
     * met. A STAGE whose next one inward is its CUSTOMER tells what is cheapest by its own TIME, a STAGE whose next
     * one inward supplies it tells what is cheapest by the TIME of that one.
     */
    private static final class Best {
        final Row[] rows = new Row[STAGES];
        // By WAIT: what the suppliers cost, if all TIMES are no more, and if the latest one is just that.
        final Row byThen = new Row(TIMES);
        final Row justThen = new Row(TIMES);
        // By TIME of the STAGE: what its CUSTOMERS cost.
        final Row own = new Row(TIMES);
        // Of one cell: the least of what is compared.
        final Row picked = new Row(1);
        final long[] prices = new long[TIMES];
        final int[] walk = new int[STAGES];
        final int[] inward = new int[STAGES];
        long high = 0;
        long low = 0;

        Best() {
            for (int s = 0; s < STAGES; s++) {
                rows[s] = new Row(TIMES);
            }
        }

        /** PRICE of BEST; NONE: there is none. */
        int leastPrice(Net net) {
            high = 0;
            low = 0;
            walkInward(net);
            for (int i = net.count - 1; i >= 0; i--) {
                int stage = walk[i];
                weigh(net, stage);
                if (inward[stage] == NONE) {
                    addLeast(rows[stage], net.longest[stage]);
                }
            }
            return high < Row.NEVER ? (int) (high >> Row.PRICE_SHIFT) : NONE;
        }

        /** The TIME of a STAGE in the BEST that was found. */
        int timeOf(int stage) {
            return (int) ((stage < 4 ? high : low) >> shiftOf(stage) & 127);
        }

        private static int shiftOf(int stage) {
            return stage < 4 ? 21 - 7 * stage : 49 - 7 * (stage - 4);
        }

        private void walkInward(Net net) {
            int seen = 0;
            int size = 0;
            for (int at = 0; at < net.count; at++) {
                if (at == size) {
                    walk[at] = firstNotIn(seen);
                    inward[walk[at]] = NONE;
                    seen |= 1 << walk[at];
                    size++;
                }
                int stage = walk[at];
                int found = (net.suppliers[stage] | net.customers[stage]) & ~seen;
                for (int s = 0; s < net.count; s++) {
                    if (size < STAGES && Net.has(found, s)) {
                        walk[size] = s;
                        inward[s] = stage;
                        size++;
                    }
                }
                seen |= found;
            }
        }

        private static int firstNotIn(int seen) {
            int first = 0;
            while (first < STAGES - 1 && Net.has(seen, first)) {
                first++;
            }
            return first;
        }

        private void weigh(Net net, int stage) {
            int root = 0;
            for (int n = 0; n <= net.longest[stage]; n++) {
                root = net.rootFrom(root, stage, n);
                prices[n] = (long) net.told(stage, COST) * root << Row.PRICE_SHIFT;
            }
            weighSuppliers(net, stage);
            weighCustomers(net, stage);
            if (inward[stage] != NONE && net.supplies(inward[stage], stage)) {
                tellBySupplier(net, stage);
            } else {
                tellByTime(net, stage);
            }
        }

        private void weighSuppliers(Net net, int stage) {
            int outer = net.told(stage, OUTER);
            int latest = net.longest[stage] - net.told(stage, DAYS);
            for (int w = 0; w <= latest; w++) {
                byThen.put(w, w < outer ? Row.NEVER : 0, 0);
                justThen.put(w, w == outer ? 0 : Row.NEVER, 0);
            }
            for (int s = 0; s < net.count; s++) {
                if (net.supplies(s, stage) && s != inward[stage]) {
                    addSupplier(rows[s], net.longest[s], latest);
                }
            }
        }

        private void addSupplier(Row row, int last, int latest) {
            picked.put(0, Row.NEVER, 0);
            for (int w = 0; w <= latest; w++) {
                if (w <= last) {
                    picked.lower(0, row.high[w], row.low[w]);
                }
                justThen.put(w, justThen.high[w] + picked.high[0], justThen.low[w] + picked.low[0]);
                if (w <= last) {
                    justThen.lower(w, byThen.high[w] + row.high[w], byThen.low[w] + row.low[w]);
                }
                byThen.put(w, byThen.high[w] + picked.high[0], byThen.low[w] + picked.low[0]);
            }
        }

        private void weighCustomers(Net net, int stage) {
            int pin = net.told(stage, PIN);
            int promise = net.told(stage, PROMISE);
            for (int t = 0; t <= net.longest[stage]; t++) {
                boolean holds = (pin == NONE || t == pin) && (promise == NONE || t <= promise);
                long bits = (long) t << shiftOf(stage);
                own.put(t, !holds ? Row.NEVER : stage < 4 ? bits : 0, stage < 4 ? 0 : bits);
            }
            for (int s = 0; s < net.count; s++) {
                if (net.supplies(stage, s) && s != inward[stage]) {
                    for (int t = 0; t <= net.longest[stage]; t++) {
                        own.put(t, own.high[t] + rows[s].high[t], own.low[t] + rows[s].low[t]);
                    }
                }
            }
        }

        private void tellByTime(Net net, int stage) {
            Row row = rows[stage];
            int days = net.told(stage, DAYS);
            int latest = net.longest[stage] - days;
            for (int t = 0; t <= net.longest[stage]; t++) {
                row.put(t, Row.NEVER, 0);
                if (own.high[t] < Row.NEVER) {
                    pickWait(days - t, latest);
                    row.put(t, picked.high[0] + own.high[t], picked.low[0] + own.low[t]);
                }
            }
        }

        /** The cheapest WAIT, if NET is so many days more (below 0: less). */
        private void pickWait(int more, int latest) {
            long[] highs = justThen.high;
            long[] lows = justThen.low;
            long leastHigh = Row.NEVER;
            long leastLow = 0;
            for (int w = Math.max(0, -more); w <= latest && w + more < TIMES; w++) {
                long now = highs[w] + prices[w + more];
                if (now < leastHigh || now == leastHigh && lows[w] < leastLow) {
                    leastHigh = now;
                    leastLow = lows[w];
                }
            }
            picked.put(0, leastHigh, leastLow);
        }

        private void tellBySupplier(Net net, int stage) {
            Row row = rows[stage];
            int outer = net.told(stage, OUTER);
            int days = net.told(stage, DAYS);
            int latest = net.longest[stage] - days;
            long laterHigh = Row.NEVER;
            long laterLow = 0;
            for (int w = latest; w >= outer; w--) {
                pickTime(w + days);
                row.put(w, laterHigh, laterLow);
                row.lower(w, byThen.high[w] + picked.high[0], byThen.low[w] + picked.low[0]);
                // From here on w is later than what the supplier promises: another one must be just then.
                picked.put(0, justThen.high[w] + picked.high[0], justThen.low[w] + picked.low[0]);
                picked.lower(0, laterHigh, laterLow);
                laterHigh = picked.high[0];
                laterLow = picked.low[0];
            }
            for (int w = 0; w < outer; w++) {
                row.put(w, row.high[outer], row.low[outer]);
            }
        }

        /** The cheapest TIME, if WAIT and DAYS together are so many days. */
        private void pickTime(int together) {
            long[] highs = own.high;
            long[] lows = own.low;
            long leastHigh = Row.NEVER;
            long leastLow = 0;
            int last = Math.min(together, TIMES - 1);
            for (int t = 0; t <= last; t++) {
                long now = highs[t] + prices[last - t];
                if (now < leastHigh || now == leastHigh && lows[t] < leastLow) {
                    leastHigh = now;
                    leastLow = lows[t];
                }
            }
            picked.put(0, leastHigh, leastLow);
        }

        private void addLeast(Row row, int last) {
            picked.put(0, Row.NEVER, 0);
            for (int t = 0; t <= last; t++) {
                picked.lower(0, row.high[t], row.low[t]);
            }
            high += picked.high[0];
            low += picked.low[0];
        }
    }
}
