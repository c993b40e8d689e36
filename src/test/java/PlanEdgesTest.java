import java.math.BigInteger;

/** The edges that the document names in NETWORKS and PLANS: each test bears the sentence that it holds the class to. */
public final class PlanEdgesTest {
    private static final int NONE = PromisedStock.NONE;
    private static final Checks CHECKS = new Checks();
    // Twelve in a row, each with the most of all: LONGEST of the last is 117.
    private static final String ROW = row(9, 9);

    private PlanEdgesTest() {
    }

    public static void main(String[] args) {
        noRing();
        fallsIntoParts();
        flowsAndWidths();
        rootIsTheLeast();
        rootOfNothing();
        rootOfTheMost();
        bounds();
        times();
        waits();
        nets();
        holdsByNet();
        holdsByPromise();
        holdsByPin();
        heldAndPrice();
        greatestPrice();
        bestOfLikeOnes();
        bestOfLikeSuppliers();
        bestOfLikeWaits();
        bestOfTheLeastPrice();
        bestOfTheLeastPriceFirst();
        bestOfTwelveParts();
        noBest();
        withoutStages();
        timesAtFirst();
        ruleZero();
        ruleLazy();
        ruleBest();
        ruleHalf();
        longest();
        worthOfADay();
        worthOfAPromise();
        worthOfAPin();
        worthOfNone();
        evenPromises();
        budgets();
        chains();
        chainsThatEnd();
        frontiers();
        CHECKS.end();
    }

    private static void is(String what, Object due, Object got) {
        CHECKS.is(what, due, got);
    }

    private static String row(int days, int outer) {
        StringBuilder text = new StringBuilder();
        for (int s = 0; s < 12; s++) {
            text.append("stage ").append((char) ('a' + s)).append(' ').append(days).append(" 1 outer ").append(outer).append(';');
        }
        return text.toString();
    }

    // Too long for one text with all of its supplies: these come by calls.
    private static PromisedStock joinedRow() {
        PromisedStock x = Checks.of(ROW);
        for (int s = 1; s < 12; s++) {
            x.supply(s - 1, s);
        }
        return x;
    }

    private static PromisedStock turnedRow() {
        PromisedStock x = Checks.of(ROW);
        for (int s = 11; s > 0; s--) {
            x.supply(s, s - 1);
        }
        return x;
    }

    private static int root(int z, int width, int n) {
        BigInteger want = BigInteger.valueOf((long) z * z).multiply(BigInteger.valueOf((long) width * n));
        BigInteger x = want.sqrt().divide(BigInteger.valueOf(100));
        while (x.multiply(x).multiply(BigInteger.valueOf(10000)).compareTo(want) < 0) {
            x = x.add(BigInteger.ONE);
        }
        return x.intValueExact();
    }

    private static void noRing() {
        CHECKS.part("with no regard to who supplies whom they make no ring");
        PromisedStock x = joinedRow();
        is("all in one part", 1, x.count(3));
        for (int from = 0; from < 12; from++) {
            for (int to = 0; to < 12; to++) {
                is("supply " + from + " " + to, NONE, x.supply(from, to));
            }
        }
        is("supplies", 11, x.count(1));
        PromisedStock y = Checks.of("stage a 1 1;stage b 1 1;stage c 1 1;");
        is("two", 1, y.supply(0, 1));
        is("the other way", NONE, y.supply(1, 0));
        is("three", 2, y.supply(2, 1));
        is("two with one customer", NONE, y.supply(0, 2));
        is("two with one customer", NONE, y.supply(2, 0));
    }

    private static void fallsIntoParts() {
        CHECKS.part("(a NETWORK may fall into parts)");
        PromisedStock x = Checks.of(ROW);
        is("twelve parts", 12, x.count(3));
        for (int s = 1; s < 12; s++) {
            is("supplies", s, x.supply(s - 1, s));
            is("parts", 12 - s, x.count(3));
        }
        is("no parts", 0, new PromisedStock().count(3));
        is("one part", 1, Checks.of("stage a 1 1;").count(3));
    }

    private static void flowsAndWidths() {
        CHECKS.part("FLOW of a STAGE: its MEAN and those FLOWS of its CUSTOMERS, together. WIDTH: its SPREAD and the WIDTHS of its CUSTOMERS, together.");
        PromisedStock x = joinedRow();
        for (int s = 0; s < 12; s++) {
            x.change(s, 3, 99);
            x.change(s, 4, 9999);
        }
        for (int s = 0; s < 12; s++) {
            is("flow " + s, 99 * (12 - s), x.stage(s, 7));
            is("width " + s, 9999 * (12 - s), x.stage(s, 8));
        }
        PromisedStock star = Checks.of("stage a 0 0 demand 99 9999;");
        for (int s = 1; s < 12; s++) {
            star.add(0, s % 3 == 0, 0, 0);
            star.change(s, 3, s);
            star.change(s, 4, 100 * s);
        }
        is("customers of the first", 1 << 1 | 1 << 2 | 1 << 4 | 1 << 5 | 1 << 7 | 1 << 8 | 1 << 10 | 1 << 11, star.stage(0, 11));
        is("its suppliers don't count", 99 + 48, star.stage(0, 7));
        is("its suppliers don't count", 9999 + 4800, star.stage(0, 8));
        is("what hangs on a supplier", 3 + 99 + 48, star.stage(3, 7));
        is("what hangs on a supplier", 300 + 9999 + 4800, star.stage(3, 8));
        is("without CUSTOMERS", 11, star.stage(11, 7));
        is("without CUSTOMERS", 1100, star.stage(11, 8));
    }

    private static void rootIsTheLeast() {
        CHECKS.part("the least whole number x of 0 on for which (100 x) times (100 x) is no less than Z times Z times WIDTH times n");
        PromisedStock x = Checks.of("stage a 1 1 demand 0 1;z 100;");
        for (int k = 1; k <= 31; k++) {
            is("by a square", k, x.bound(0, 0, k * k));
            is("by one more", k + 1, x.bound(0, 0, k * k + 1));
            is("by one less", k, x.bound(0, 0, k * k - 1 == 0 ? 1 : k * k - 1));
        }
        for (int z : new int[] {0, 1, 2, 3, 99, 100, 101, 165, 200, 333, 399, 400}) {
            PromisedStock y = Checks.of("stage a 1 1;z " + z + ";");
            for (int width : new int[] {1, 2, 99, 100, 101, 2500, 9998, 9999}) {
                y.change(0, 4, width);
                for (int n : new int[] {1, 2, 3, 40, 117, 998, 999}) {
                    is("root of z " + z + " width " + width + " by " + n, root(z, width, n), y.bound(0, 0, n));
                }
            }
        }
    }

    private static void rootOfNothing() {
        CHECKS.part("the least whole number x of 0 on");
        PromisedStock x = Checks.of("stage a 1 1 demand 0 9999;z 400;");
        is("by 0 days", 0, x.bound(0, 0, 0));
        is("by 1 day", 400, x.bound(0, 0, 1));
        x.change(0, 6, 0);
        is("z 0", 0, x.bound(0, 0, 999));
        x.change(0, 6, 1);
        is("z 1", root(1, 9999, 999), x.bound(0, 0, 999));
        x.change(0, 4, 0);
        is("width 0", 0, x.bound(0, 0, 999));
        x.change(0, 4, 1);
        is("never cut: a hundredth", 1, x.bound(0, 0, 1));
        is("a whole one", 1, Checks.of("stage a 1 1 demand 0 1;z 100;").bound(0, 0, 1));
        is("a bit more", 2, Checks.of("stage a 1 1 demand 0 1;z 101;").bound(0, 0, 1));
    }

    private static void rootOfTheMost() {
        CHECKS.part("Z times Z times WIDTH times n: far above an int");
        PromisedStock x = joinedRow();
        x.change(0, 6, 400);
        for (int s = 0; s < 12; s++) {
            x.change(s, 4, 9999);
        }
        for (int s = 0; s < 12; s++) {
            for (int n : new int[] {1, 13, 14, 117, 128, 500, 999}) {
                is("root " + s + " by " + n, root(400, 9999 * (12 - s), n), x.bound(s, 0, n));
            }
        }
        is("the greatest", 43794, x.bound(0, 0, 999));
    }

    private static void bounds() {
        CHECKS.part("BOUND of n days: n times FLOW and ROOT by n, together.");
        PromisedStock x = joinedRow();
        x.change(0, 6, 400);
        for (int s = 0; s < 12; s++) {
            x.change(s, 3, 99);
            x.change(s, 4, 9999);
        }
        is("of 0 days", 0, x.bound(0, 1, 0));
        is("of 1 day", 1188 + root(400, 119988, 1), x.bound(0, 1, 1));
        is("of 999 days", 999 * 1188 + 43794, x.bound(0, 1, 999));
        x.change(0, 6, 0);
        is("without a root", 999 * 1188, x.bound(0, 1, 999));
        PromisedStock y = Checks.of("stage a 1 1 demand 0 1;z 100;");
        is("without a flow", 32, y.bound(0, 1, 999));
    }

    private static void times() {
        CHECKS.part("A PLAN gives each STAGE a TIME (0 to 119");
        PromisedStock x = joinedRow();
        for (int s = 0; s < 12; s++) {
            is("it was", 0, x.promise(s, 119));
            is("it is", 119, x.planned(s, 0));
        }
        for (int s = 0; s < 12; s++) {
            is("it was", 119, x.promise(s, 0));
            CHECKS.illegal("120", () -> x.promise(0, 120));
            CHECKS.illegal("-1", () -> x.promise(0, -1));
            is("it is", 0, x.planned(s, 0));
        }
    }

    private static void waits() {
        CHECKS.part("WAIT of a STAGE: the greatest of OUTER and TIMES of those who supply it.");
        PromisedStock x = Checks.of("stage a 1 1;stage b 1 1;stage c 1 1 outer 5;stage d 1 1 outer 9;from a c;from b c;from c d;");
        is("without suppliers", 0, x.planned(0, 1));
        is("outer", 5, x.planned(2, 1));
        x.promise(0, 4);
        is("a time below outer", 5, x.planned(2, 1));
        x.promise(0, 5);
        is("a time like outer", 5, x.planned(2, 1));
        x.promise(1, 6);
        is("a time above outer", 6, x.planned(2, 1));
        x.promise(0, 119);
        is("the most", 119, x.planned(2, 1));
        is("not of those who supply a supplier", 9, x.planned(3, 1));
        is("not of customers", 0, x.planned(0, 1));
        x.promise(3, 100);
        is("not of customers", 119, x.planned(2, 1));
    }

    private static void nets() {
        CHECKS.part("NET: WAIT and DAYS less its TIME, together.");
        PromisedStock x = Checks.of("stage a 9 1 outer 9;stage b 9 7 demand 5 100;from a b;z 100;");
        int[][] due = {{0, 18}, {17, 1}, {18, 0}, {19, -1}, {119, -101}};
        for (int[] d : due) {
            x.promise(0, d[0]);
            is("net", d[1], x.planned(0, 2));
            for (int what = 3; what < 6; what++) {
                is("what " + what + " of net " + d[1], d[1] < 0, x.planned(0, what) == NONE);
            }
        }
        is("the most", 128, x.planned(1, 2));
        is("held", root(100, 100, 128), x.planned(1, 3));
        is("base", 5 * 128 + root(100, 100, 128), x.planned(1, 4));
        is("cost times held", 7 * root(100, 100, 128), x.planned(1, 5));
    }

    private static void holds(PromisedStock x, int first) {
        is("the first that doesn't hold", first, x.plan(1));
        is("price is there", first == NONE, x.plan(0) != NONE);
    }

    private static void holdsByNet() {
        CHECKS.part("A PLAN HOLDS, if no NET is below 0");
        PromisedStock x = Checks.of("stage a 9 1 outer 9;stage b 0 1;from a b;");
        x.promise(0, 18);
        holds(x, NONE);
        x.promise(1, 18);
        holds(x, NONE);
        x.promise(1, 19);
        holds(x, 1);
        x.promise(0, 19);
        holds(x, 0);
        x.promise(1, 0);
        holds(x, 0);
        x.promise(0, 0);
        holds(x, NONE);
        x.promise(1, 1);
        holds(x, 1);
    }

    private static void holdsByPromise() {
        CHECKS.part("A PLAN HOLDS, if .. no TIME above a PROMISE");
        PromisedStock x = Checks.of("stage a 9 1 outer 9;stage b 9 1 promise 20;from a b;");
        x.promise(0, 18);
        x.promise(1, 20);
        holds(x, NONE);
        x.promise(1, 21);
        holds(x, 1);
        x.change(1, 5, NONE);
        holds(x, NONE);
        x.change(1, 5, 0);
        holds(x, 1);
        x.promise(1, 1);
        holds(x, 1);
        x.promise(1, 0);
        holds(x, NONE);
        x.change(0, 5, 17);
        holds(x, 0);
        x.promise(0, 17);
        holds(x, NONE);
    }

    private static void holdsByPin() {
        CHECKS.part("A PLAN HOLDS, if .. each PIN (a TIME that is told of a STAGE) is kept.");
        PromisedStock x = Checks.of("stage a 9 1 outer 9;stage b 9 1;from a b;");
        x.pin(1, 5);
        x.promise(1, 4);
        holds(x, 1);
        x.promise(1, 6);
        holds(x, 1);
        x.promise(1, 5);
        holds(x, NONE);
        x.pin(0, 0);
        holds(x, NONE);
        x.promise(0, 1);
        holds(x, 0);
        x.pin(0, NONE);
        holds(x, NONE);
        x.pin(0, 119);
        x.promise(0, 119);
        holds(x, 0);
    }

    private static void heldAndPrice() {
        CHECKS.part("HELD of a STAGE: ROOT by NET. PRICE of a PLAN: COST times HELD, all STAGES together. BASE: BOUND of NET.");
        PromisedStock x = Checks.of("stage a 4 3 demand 1 75;stage b 9 999 demand 2 25;from a b;z 100;");
        is("held", 20, x.planned(0, 3));
        is("held", 15, x.planned(1, 3));
        is("base", 4 * 3 + 20, x.planned(0, 4));
        is("base", 9 * 2 + 15, x.planned(1, 4));
        is("price", 3 * 20 + 999 * 15, x.plan(0));
        is("both hold something", 3, x.plan(2));
        PromisedStock one = Checks.of("stage a 1 1 demand 0 1;stage b 1 1 demand 0 2;stage c 0 1 demand 0 1;z 100;");
        is("held", 1, one.planned(0, 3));
        is("held", 2, one.planned(1, 3));
        is("one is something, too", 3, one.plan(2));
        x.promise(0, 4);
        is("net 0 holds nothing", 2, x.plan(2));
        is("net 0", 0, x.planned(0, 3));
        is("net 0", 0, x.planned(0, 4));
        is("net 0", 0, x.planned(0, 5));
        is("price", 999 * root(100, 25, 13), x.plan(0));
        x.change(1, 1, 0);
        is("cost 0", 0, x.plan(0));
        is("what costs nothing is held all the same", 2, x.plan(2));
        x.change(1, 4, 0);
        is("spread 0", 0, x.plan(2));
        x.promise(0, 5);
        is("STAGES of NET below 0 don't", 0, x.plan(2));
    }

    private static void greatestPrice() {
        CHECKS.part("PRICE of a PLAN: the greatest");
        PromisedStock x = joinedRow();
        x.change(0, 6, 400);
        int due = 0;
        for (int s = 0; s < 12; s++) {
            x.change(s, 1, 999);
            x.change(s, 4, 9999);
            due += 999 * root(400, 9999 * (12 - s), 18);
        }
        is("all times 0", due, x.take(0));
        for (int s = 0; s < 12; s++) {
            x.pin(s, 0);
        }
        is("all pinned", due, x.least());
        is("taken", due, x.take(2));
        is("worth of a pin is there", true, x.worth(11, 2) > 0);
        // The last of a row holds all of its 117 days, all WIDTH hangs on it by suppliers that hold nothing.
        for (int s = 0; s < 12; s++) {
            x.pin(s, s < 11 ? 9 * (s + 2) : 0);
        }
        is("117 days", 999 * root(400, 9999, 117), x.least());
        is("its net", 117, x.take(2) == NONE ? NONE : x.planned(11, 2));
    }

    private static void bestOfLikeOnes() {
        CHECKS.part("of like ones that of the least TIME of STAGE 0, then of 1, ..");
        PromisedStock x = joinedRow();
        for (int s = 0; s < 12; s++) {
            x.promise(s, 3);
        }
        is("nothing is asked: all cost nothing", 0, x.take(2));
        for (int s = 0; s < 12; s++) {
            is("the least time of " + s, 0, x.planned(s, 0));
        }
        x.pin(11, 100);
        is("still nothing", 0, x.take(2));
        // TIMES must rise by the 9 DAYS of each, so that the last one can promise 100; OUTER does for the first 9.
        for (int s = 0; s < 12; s++) {
            int needed = 100 - 9 * (11 - s);
            is("the least time of " + s, needed > 9 ? needed : 0, x.planned(s, 0));
        }
        PromisedStock turned = turnedRow();
        is("nothing is asked: all cost nothing", 0, turned.take(2));
        for (int s = 0; s < 12; s++) {
            is("the least time of " + s + ", turned", 0, turned.planned(s, 0));
        }
        turned.pin(0, 100);
        is("still nothing", 0, turned.take(2));
        for (int s = 0; s < 12; s++) {
            int needed = 100 - 9 * s;
            is("the least time of " + s + ", turned", needed > 9 ? needed : 0, turned.planned(s, 0));
        }
        twoSuppliers("stage c 5 0;stage a 6 0;stage b 6 0;from a c;from b c;", 0, 6);
        twoSuppliers("stage c 5 0;stage b 6 0;stage a 6 0;from b c;from a c;", 0, 6);
    }

    // Only one of both suppliers must be late: it is the one of the greater number.
    private static void twoSuppliers(String text, int first, int second) {
        PromisedStock x = Checks.of(text);
        x.pin(0, 11);
        is("price", 0, x.take(2));
        is("the first supplier", first, x.planned(1, 0));
        is("the second supplier", second, x.planned(2, 0));
    }

    // One STAGE, supplied by three; those of lesser numbers than "first" stand by themselves.
    private static PromisedStock threeSuppliers(int first, int customer) {
        StringBuilder text = new StringBuilder();
        for (int s = 0; s < first + 4; s++) {
            text.append("stage ").append((char) ('a' + s)).append(s < first ? " 0 9;" : s == customer ? " 5 0;" : " 6 0;");
        }
        for (int s = first; s < first + 4; s++) {
            if (s != customer) {
                text.append("from ").append((char) ('a' + s)).append(' ').append((char) ('a' + customer)).append(';');
            }
        }
        return Checks.of(text.toString());
    }

    private static void bestOfLikeSuppliers() {
        CHECKS.part("of like ones that of the least TIME of STAGE 0, then of 1, ..: of three suppliers one must be late");
        for (int first : new int[] {0, 1, 3, 4, 5, 8}) {
            for (int customer = first; customer < first + 4; customer++) {
                for (int pinned = first - 1; pinned < first + 4; pinned++) {
                    if (pinned != customer) {
                        likeSuppliers(first, customer, pinned);
                    }
                }
            }
        }
    }

    // The customer needs a WAIT of 6 at least; a PIN of 2 keeps one of them from it; all cost nothing.
    private static void likeSuppliers(int first, int customer, int pinned) {
        PromisedStock x = threeSuppliers(first, customer);
        if (pinned >= first) {
            x.pin(pinned, 2);
        }
        is("price", 0, x.take(2));
        for (int s = 0; s < first + 4; s++) {
            is("time of " + s + ", none late", s >= first && s == pinned ? 2 : 0, x.planned(s, 0));
        }
        x.pin(customer, 11);
        int late = first + 3;
        while (late == customer || late == pinned) {
            late--;
        }
        is("price", 0, x.take(2));
        for (int s = 0; s < first + 4; s++) {
            int due = s == customer ? 11 : s == late ? 6 : s >= first && s == pinned ? 2 : 0;
            is("time of " + s + " from " + first + ", customer " + customer + ", pinned " + pinned, due, x.planned(s, 0));
        }
    }

    private static void bestOfLikeWaits() {
        CHECKS.part("of like ones that of the least TIME of STAGE 0, then of 1, ..: an earlier TIME that makes a later WAIT");
        int[][] rows = {{0, 1, 2}, {0, 2, 1}, {1, 0, 2}, {2, 0, 1}, {1, 2, 0}, {2, 1, 0}};
        for (int first = 0; first < 10; first++) {
            for (int[] row : rows) {
                likeWaits(first, first + row[0], first + row[1], first + row[2]);
            }
        }
    }

    // The last one holds nothing. What both others hold costs 6, if the first promises 4 and the second 2 (it holds
    // a ROOT of 4), and if they promise 1 and 3 (the first holds a ROOT of 9), and by some later TIMES.
    private static void likeWaits(int others, int first, int second, int last) {
        StringBuilder text = new StringBuilder("z 100;");
        for (int s = 0; s < others + 3; s++) {
            text.append("stage ").append((char) ('a' + s)).append(s == first ? " 4 2 demand 0 2;"
                : s == second ? " 2 3 demand 0 1 promise 4;" : " 0 0;");
        }
        PromisedStock x = Checks.of(text.toString());
        x.supply(first, second);
        x.supply(second, last);
        is("price", 6, x.take(2));
        is("the first, of " + first + " " + second + " " + last, first < second ? 1 : 4, x.planned(first, 0));
        is("the second, of " + first + " " + second + " " + last, first < second ? 3 : 2, x.planned(second, 0));
        is("the last", 0, x.planned(last, 0));
    }

    private static void bestOfTheLeastPrice() {
        CHECKS.part("BEST: of all PLANS that HOLD the one of the least PRICE");
        for (int others = 0; others < 11; others++) {
            StringBuilder text = new StringBuilder("stage shop 2 1 demand 0 100 promise 0;z 100;");
            for (int s = 0; s < others; s++) {
                text.append("stage ").append((char) ('a' + s)).append(" 9 9;");
            }
            PromisedStock x = Checks.of(text + "stage mill 7 100;from mill shop;");
            is("all is held by the shop", 30, x.take(2));
            is("the mill is late", 7, x.planned(others + 1, 0));
            x.change(0, 1, 999);
            is("the shop holds as little as it can", 999 * 15 + 100 * root(100, 100, 7), x.take(2));
            is("the mill is early", 0, x.planned(others + 1, 0));
        }
        PromisedStock late = Checks.of("stage c 0 0;stage a 3 0;stage b 9 0;from a c;from b c;");
        late.pin(1, 3);
        late.pin(2, 9);
        is("each as late as can be", 0, late.take(2));
        is("the customer needn't be", 0, late.planned(0, 0));
        is("its WAIT", 9, late.planned(0, 1));
        is("with the customer", 0, late.pinned(0, 9));
        is("a day later", NONE, late.pinned(0, 10));
    }

    private static void bestOfTwelveParts() {
        CHECKS.part("PRICE of BEST, in a NETWORK of twelve parts");
        PromisedStock x = Checks.of(ROW);
        x.change(0, 6, 100);
        int due = 0;
        for (int s = 0; s < 12; s++) {
            x.change(s, 4, 100);
            x.change(s, 2, s < 10 ? s : 9);
            x.change(s, 1, 1 << s % 9);
            x.change(s, 5, s);
            due += (1 << s % 9) * root(100, 100, (s < 10 ? s : 9) + 9 - s);
        }
        is("least", due, x.least());
        is("take", due, x.take(2));
        for (int s = 0; s < 12; s++) {
            is("time " + s, s, x.planned(s, 0));
        }
    }

    private static void bestOfTheLeastPriceFirst() {
        CHECKS.part("the one of the least PRICE; of like ones that of the least TIME of STAGE 0: PRICE comes first");
        int[][] rows = {{0, 1, 2}, {0, 2, 1}, {1, 0, 2}, {2, 0, 1}, {1, 2, 0}, {2, 1, 0}};
        for (int first : new int[] {0, 1, 2, 3, 4, 6, 9}) {
            for (int[] row : rows) {
                lateJustInTime(first, first + row[0], first + row[1], first + row[2]);
            }
        }
    }

    // What the customer waits beyond its PIN of 2 it must hold, so one of its suppliers is late by 2, none by 3.
    private static void lateJustInTime(int first, int customer, int two, int three) {
        StringBuilder text = new StringBuilder();
        for (int s = 0; s < first + 3; s++) {
            String told = s == customer ? " 0 5 demand 0 100;" : s == two ? " 2 0;" : s == three ? " 3 0;" : " 0 9;";
            text.append("stage ").append((char) ('a' + s)).append(told);
        }
        PromisedStock x = Checks.of(text.toString());
        x.supply(two, customer);
        x.supply(three, customer);
        x.pin(customer, 2);
        is("price", 0, x.take(2));
        int late = Math.max(two, three);
        for (int s = 0; s < first + 3; s++) {
            is("time of " + s + ", of " + two + " and " + three + " one is late", s == customer || s == late ? 2 : 0, x.planned(s, 0));
        }
    }

    private static void noBest() {
        CHECKS.part("none, if none HOLDS");
        PromisedStock x = joinedRow();
        for (int s = 0; s < 12; s++) {
            int most = 9 * (s + 2);
            is("as late as can be " + s, 0, x.pinned(s, most));
            is("a day later " + s, NONE, x.pinned(s, most + 1));
            is("119", NONE, x.pinned(s, 119));
            is("0", 0, x.pinned(s, 0));
        }
        x.pin(11, 118);
        is("least", NONE, x.least());
        x.promise(3, 7);
        is("take", NONE, x.take(2));
        is("nothing changes", 7, x.planned(3, 0));
        x.pin(11, 117);
        is("least", 0, x.least());
        x.change(11, 5, 20);
        is("a PIN above a PROMISE", NONE, x.least());
        x.pin(11, 21);
        is("one above", NONE, x.least());
        x.pin(11, 20);
        is("like it", 0, x.least());
        x.pin(10, 10);
        is("two pins: its supplier is 10 days ahead", NONE, x.least());
        x.pin(10, 11);
        is("two pins: 9 days", 0, x.least());
        PromisedStock parts = Checks.of("stage a 1 1;stage b 1 1;");
        parts.pin(1, 2);
        is("one part of two", NONE, parts.least());
    }

    private static void withoutStages() {
        CHECKS.part("(A NETWORK without STAGES has one PLAN, of PRICE 0.)");
        PromisedStock x = new PromisedStock();
        is("least", 0, x.least());
        is("price", 0, x.plan(0));
        is("it holds", NONE, x.plan(1));
        is("holding", 0, x.plan(2));
        for (int rule = 0; rule < 4; rule++) {
            is("take " + rule, 0, x.take(rule));
        }
        is("take 4", NONE, x.take(4));
        for (int p = 0; p <= 20; p++) {
            is("even " + p, 0, x.even(p));
        }
        is("budget 0", 0, x.budget(0));
        is("budget -1", NONE, x.budget(-1));
        is("frontier", 1, x.frontier(NONE));
        is("frontier 0", 0, x.frontier(0));
        CHECKS.noSuch("frontier 1", () -> x.frontier(1));
    }

    private static void timesAtFirst() {
        CHECKS.part("There is one PLAN at hand (all TIMES 0 at first, and in a new NETWORK).");
        PromisedStock x = joinedRow();
        for (int s = 0; s < 12; s++) {
            is("at first", 0, x.planned(s, 0));
            x.promise(s, 100 + s);
        }
        Checks.tell(x, ROW);
        for (int s = 0; s < 12; s++) {
            is("in a new NETWORK", 0, x.planned(s, 0));
            x.promise(s, 100 + s);
        }
        Checks.tell(x, "x");
        for (int s = 0; s < 12; s++) {
            is("not by a FAULT", 100 + s, x.planned(s, 0));
        }
        Checks.tell(x, "stage a 1 1;");
        is("of one added", 0, x.planned(x.add(0, true, 1, 1), 0));
    }

    private static void ruleZero() {
        CHECKS.part("RULES of PLANS: 0 all TIMES 0");
        PromisedStock x = joinedRow();
        for (int s = 0; s < 12; s++) {
            x.promise(s, 119);
        }
        is("take", 0, x.take(0));
        for (int s = 0; s < 12; s++) {
            is("time", 0, x.planned(s, 0));
        }
        x.pin(5, 1);
        x.promise(5, 1);
        is("with a PIN it doesn't HOLD", -2, x.take(0));
        is("but is taken", 0, x.planned(5, 0));
    }

    private static void ruleLazy() {
        CHECKS.part("the TIME of each is WAIT and DAYS together, or its PROMISE, or its PIN, if that is less (the least of these)");
        PromisedStock x = joinedRow();
        is("take", 0, x.take(1));
        for (int s = 0; s < 12; s++) {
            is("time", 9 * (s + 2), x.planned(s, 0));
        }
        // WAIT and DAYS of STAGE 0 are 18; its TIME is the least of these.
        int[][] due = {{18, NONE, 18}, {17, NONE, 17}, {20, NONE, 18}, {NONE, 18, 18}, {NONE, 17, 17}, {NONE, 19, 18},
            {NONE, 119, 18}, {0, NONE, 0}, {NONE, 0, 0}, {5, 4, 4}, {4, 5, 4}, {5, 5, 5}, {20, 119, 18}};
        for (int[] d : due) {
            x.change(0, 5, d[0]);
            x.pin(0, d[1]);
            boolean holds = d[1] == NONE || d[1] == d[2];
            is("promise " + d[0] + " pin " + d[1], holds, x.take(1) != -2);
            is("promise " + d[0] + " pin " + d[1], d[2], x.planned(0, 0));
            is("the next one", Math.max(9, d[2]) + 9, x.planned(1, 0));
            is("the last one", Math.max(9, d[2]) + 99, x.planned(11, 0));
        }
        PromisedStock turned = turnedRow();
        turned.take(1);
        for (int s = 0; s < 12; s++) {
            is("suppliers ahead of whom they supply", 9 * (13 - s), turned.planned(s, 0));
        }
    }

    private static void ruleBest() {
        CHECKS.part("2 BEST");
        PromisedStock x = Checks.of("stage mill 3 2;stage shop 2 10 demand 4 16 promise 0;from mill shop;");
        is("best", 124, x.take(2));
        is("mill", 0, x.planned(0, 0));
        is("shop", 0, x.planned(1, 0));
        x.change(0, 1, 11);
        is("best", 150, x.take(2));
        is("mill", 3, x.planned(0, 0));
    }

    private static void ruleHalf() {
        CHECKS.part("3 each TIME half (cut) of what 1 gives, but of a PIN that.");
        PromisedStock x = joinedRow();
        is("take", 0, x.take(3));
        for (int s = 0; s < 12; s++) {
            is("half of " + 9 * (s + 2), 9 * (s + 2) / 2, x.planned(s, 0));
        }
        x.change(0, 5, 1);
        x.take(3);
        is("half of 1", 0, x.planned(0, 0));
        is("half of what 1 gives, by its own WAIT", 9, x.planned(1, 0));
        x.change(0, 5, NONE);
        x.pin(0, 7);
        is("a PIN", 0, x.take(3));
        is("a PIN isn't halved", 7, x.planned(0, 0));
        x.pin(0, 0);
        x.take(3);
        is("a PIN of 0", 0, x.planned(0, 0));
        x.pin(0, 18);
        is("a PIN as late as can be", 0, x.take(3));
        is("a PIN as late as can be", 18, x.planned(0, 0));
        is("the next one: half of 27", 13, x.planned(1, 0));
        x.pin(0, 119);
        is("a PIN that can't be kept", -2, x.take(3));
        is("a PIN that can't be kept", 119, x.planned(0, 0));
        is("the next one: half of what 1 gives", 13, x.planned(1, 0));
        PromisedStock late = Checks.of("stage a 9 1;stage b 0 1;from a b;");
        late.pin(1, 9);
        is("half of its supplier is too early for a PIN", -2, late.take(3));
        is("the PIN", 9, late.planned(1, 0));
        is("half of 9", 4, late.planned(0, 0));
    }

    private static void longest() {
        CHECKS.part("LONGEST of a STAGE: the greatest of what its OUTER and DAYS, and LONGEST of one who supplies it and DAYS, make.");
        PromisedStock x = joinedRow();
        for (int s = 0; s < 12; s++) {
            is("longest " + s, 9 * (s + 2), x.stage(s, 9));
            is("longest " + s + ", turned", 9 * (13 - s), turnedRow().stage(s, 9));
        }
        PromisedStock y = Checks.of("stage a 0 1;stage b 3 1;stage c 2 1 outer 3;from a c;from b c;");
        is("nothing", 0, y.stage(0, 9));
        is("outer like a supplier", 5, y.stage(2, 9));
        y.change(2, 2, 4);
        is("outer above it", 6, y.stage(2, 9));
        y.change(2, 2, 2);
        is("outer below it", 5, y.stage(2, 9));
        y.change(0, 2, 4);
        is("the other supplier", 6, y.stage(2, 9));
        y.promise(0, 119);
        is("no PLAN counts", 6, y.stage(2, 9));
        y.pin(0, 0);
        y.change(0, 5, 0);
        is("no PIN, no PROMISE counts", 6, y.stage(2, 9));
    }

    private static void worthOfADay() {
        CHECKS.part("WORTH of a STAGE's DAY: PRICE of BEST less that with DAYS one less (0 DAYS: 0).");
        PromisedStock x = Checks.of("stage a 9 5 demand 0 100 promise 0;z 100;");
        for (int days = 9; days >= 0; days--) {
            x.change(0, 0, days);
            int due = days == 0 ? 0 : 5 * (root(100, 100, days) - root(100, 100, days - 1));
            is("worth of day " + days, due, x.worth(0, 0));
            is("nothing changes", days, x.stage(0, 0));
        }
        x.change(0, 2, 9);
        is("0 days with outer", 0, x.worth(0, 0));
        x.change(0, 0, 1);
        is("1 day with outer", 5 * (root(100, 100, 10) - 30), x.worth(0, 0));
    }

    private static void worthOfAPromise() {
        CHECKS.part("WORTH of a PROMISE: PRICE of BEST less that with a PROMISE one more (without a PROMISE 0).");
        PromisedStock x = Checks.of("stage a 9 0 outer 9;stage b 9 5 demand 0 100;from a b;z 100;");
        x.pin(0, 18);
        is("without one", 0, x.worth(1, 1));
        for (int p = 0; p <= 20; p++) {
            x.change(1, 5, p);
            is("worth of promise " + p, 5 * (root(100, 100, 27 - p) - root(100, 100, 26 - p)), x.worth(1, 1));
            is("nothing changes", p, x.stage(1, 5));
        }
        PromisedStock y = Checks.of("stage a 3 5 demand 0 100 promise 2;z 100;");
        is("the last day", 50, y.worth(0, 1));
        y.change(0, 5, 3);
        is("as late as can be", 0, y.worth(0, 1));
    }

    private static void worthOfAPin() {
        CHECKS.part("WORTH of a PIN: PRICE of BEST less that without it (0 without one).");
        PromisedStock x = Checks.of("stage a 9 5 demand 0 100;z 100;");
        is("without one", 0, x.worth(0, 2));
        x.pin(0, 0);
        is("a PIN of 0", 150, x.worth(0, 2));
        x.pin(0, 8);
        is("a PIN of 8", 50, x.worth(0, 2));
        x.pin(0, 9);
        is("where BEST is anyway", 0, x.worth(0, 2));
        is("nothing changes", 9, x.stage(0, 6));
        x.pin(0, 10);
        is("one that can't be kept", -1000000, x.worth(0, 2));
    }

    private static void worthOfNone() {
        CHECKS.part("(Where one of both PLANS isn't there: none; but 0 where 0 is told here, whatever BEST is.)");
        PromisedStock x = Checks.of("stage a 3 1 demand 0 100;stage b 0 1;");
        x.pin(0, 3);
        is("a day: only that with DAYS one less isn't there", -1000000, x.worth(0, 0));
        is("best is there", 0, x.least());
        x.pin(0, 4);
        is("a day: neither is there", -1000000, x.worth(0, 0));
        is("a pin: only that without it is there", -1000000, x.worth(0, 2));
        is("0 DAYS", 0, x.worth(1, 0));
        is("without a PROMISE", 0, x.worth(0, 1));
        is("without a PROMISE", 0, x.worth(1, 1));
        is("without a PIN", 0, x.worth(1, 2));
        x.change(1, 5, 2);
        is("a promise: neither is there", -1000000, x.worth(1, 1));
        x.pin(0, 3);
        x.change(0, 5, 2);
        is("a promise: only that with one more is there", -1000000, x.worth(0, 1));
        x.change(0, 5, 3);
        is("both are there", 0, x.worth(0, 1));
        x.change(0, 5, NONE);
        x.pin(1, 1);
        is("a pin: that without it isn't there for another pin", -1000000, x.worth(0, 2));
    }

    private static void evenPromises() {
        CHECKS.part("EVEN PROMISES p: PRICE of BEST, were PROMISE p (0 to 20) of each STAGE without CUSTOMERS (all others have none).");
        PromisedStock x = Checks.of("stage a 9 0 outer 9;stage b 9 0 demand 0 100;from a b;z 100;");
        for (int p = 0; p <= 20; p++) {
            is("even " + p, 0, x.even(p));
        }
        x.change(1, 1, 5);
        x.pin(0, 18);
        for (int p = 20; p >= 0; p--) {
            is("even " + p, 5 * root(100, 100, 27 - p), x.even(p));
        }
        CHECKS.illegal("21", () -> x.even(21));
        CHECKS.illegal("-1", () -> x.even(-1));
        x.change(0, 5, 0);
        is("a PROMISE of one with CUSTOMERS doesn't count", 5 * root(100, 100, 7), x.even(20));
        x.change(1, 5, 0);
        is("nor one without", 5 * root(100, 100, 7), x.even(20));
        is("PROMISES stay", 0, x.stage(1, 5));
        x.pin(1, 20);
        is("a PIN of 20", 5 * root(100, 100, 7), x.even(20));
        is("a PIN of 20", NONE, x.even(19));
        x.pin(1, 21);
        is("a PIN of 21", NONE, x.even(20));
        PromisedStock two = Checks.of("stage a 2 1 demand 0 100;stage b 2 1 demand 0 100;z 100;");
        is("each of them", 30, two.even(0));
        is("each of them", 20, two.even(1));
        is("each of them", 0, two.even(2));
    }

    private static void budgets() {
        CHECKS.part("BUDGET: the least such p with a PRICE no more than told; none.");
        PromisedStock x = Checks.of("stage a 9 0 outer 9;stage b 9 5 demand 0 100;from a b;z 100;");
        x.pin(0, 18);
        for (int p = 0; p <= 20; p++) {
            int price = 5 * root(100, 100, 27 - p);
            is("just that", p, x.budget(price));
            is("one more", p, x.budget(price + 1));
            is("one less", p == 20 ? NONE : p + 1, x.budget(price - 1));
        }
        is("0", NONE, x.budget(0));
        is("the most", 0, x.budget(Integer.MAX_VALUE));
        is("the least", NONE, x.budget(Integer.MIN_VALUE));
        x.change(1, 1, 0);
        is("0 where all costs nothing", 0, x.budget(0));
        is("-1", NONE, x.budget(-1));
        x.pin(1, 20);
        is("only 20 is there", 20, x.budget(Integer.MAX_VALUE));
        x.pin(1, 21);
        is("none is there", NONE, x.budget(Integer.MAX_VALUE));
    }

    private static void chains() {
        CHECKS.part("of those who supply it the one of the greatest LONGEST (of like ones the least)");
        PromisedStock x = Checks.of("stage a 1 1;stage b 5 1;stage c 5 1;stage d 4 1;stage e 0 1;from a e;from b e;from c e;from d e;");
        is("how many", 2, x.chain(4, NONE));
        is("the least of like ones", 1, x.chain(4, 1));
        x.change(2, 0, 6);
        is("the greatest", 2, x.chain(4, 1));
        x.change(0, 0, 6);
        is("the least of like ones", 0, x.chain(4, 1));
        x.change(3, 0, 7);
        is("the greatest", 3, x.chain(4, 1));
        PromisedStock row = joinedRow();
        is("twelve", 12, row.chain(11, NONE));
        for (int k = 0; k < 12; k++) {
            is("the k-th", 11 - k, row.chain(11, k));
        }
        CHECKS.noSuch("the one behind", () -> row.chain(11, 12));
        is("one", 1, row.chain(0, NONE));
        is("itself", 0, row.chain(0, 0));
        CHECKS.noSuch("none supplies it", () -> row.chain(0, 1));
    }

    private static void chainsThatEnd() {
        CHECKS.part("as long as there are such and its LONGEST and the DAYS of the one that it supplies, together, are the LONGEST of that one");
        PromisedStock x = Checks.of("stage a 5 1;stage b 2 1;stage c 1 1;from a b;from b c;");
        is("all", 3, x.chain(2, NONE));
        x.change(1, 2, 5);
        is("outer just as late", 3, x.chain(2, NONE));
        x.change(1, 2, 6);
        is("outer a day later", 2, x.chain(2, NONE));
        CHECKS.noSuch("it ends", () -> x.chain(2, 2));
        x.change(2, 2, 8);
        is("just as late", 2, x.chain(2, NONE));
        x.change(2, 2, 9);
        is("a day later", 1, x.chain(2, NONE));
        x.change(0, 0, 0);
        x.change(1, 0, 0);
        x.change(2, 0, 0);
        x.change(1, 2, 0);
        x.change(2, 2, 0);
        is("no days at all", 3, x.chain(2, NONE));
    }

    private static void frontiers() {
        CHECKS.part("FRONTIER: of EVEN PROMISES 0 to 20 those with a PRICE less than those of all lesser ones (a PRICE that isn't there is greater than any).");
        PromisedStock x = Checks.of("stage a 9 0 outer 9;stage b 9 0 demand 0 100;from a b;z 100;");
        is("all cost the same", 1, x.frontier(NONE));
        is("the first", 0, x.frontier(0));
        CHECKS.noSuch("one more", () -> x.frontier(1));
        x.change(1, 1, 5);
        x.pin(0, 18);
        is("each costs less", 21, x.frontier(NONE));
        for (int k = 0; k <= 20; k++) {
            is("the k-th", k, x.frontier(k));
        }
        CHECKS.noSuch("21", () -> x.frontier(21));
        x.pin(1, 20);
        is("only 20 is there", 1, x.frontier(NONE));
        is("only 20 is there", 20, x.frontier(0));
        x.pin(1, 21);
        is("none is there", 0, x.frontier(NONE));
        CHECKS.noSuch("0", () -> x.frontier(0));
        x.pin(1, 0);
        is("like ones", 1, x.frontier(NONE));
        is("the least of like ones", 0, x.frontier(0));
    }
}
