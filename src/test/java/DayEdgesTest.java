/** The edges that the document names in days of demand and in ACTS: each test bears the sentence that it holds the class to. */
public final class DayEdgesTest {
    private static final int NONE = PromisedStock.NONE;
    private static final Checks CHECKS = new Checks();
    // Without a ROOT the BOUND of n days is 5 n: it can be met to the very one.
    private static final String FIVE = "stage a 2 1 demand 5 0;z 0;";

    private DayEdgesTest() {
    }

    public static void main(String[] args) {
        demands();
        demandsAtFirst();
        called();
        breaksByOneMore();
        breaksOfManyDays();
        breaksWithARoot();
        onHandByTime();
        onHandOfEarlyDays();
        onHandOfNoNet();
        onHandOfManyDays();
        shortDays();
        leastOnHand();
        eachIsAnAct();
        refusedIsNoAct();
        othersAreNoActs();
        latestTwenty();
        oldestOfEachKind();
        oneByOne();
        undoneIsAsItWas();
        ringOfActs();
        planAndDemandsStay();
        stageThatIsGone();
        stageThatComesAgain();
        CHECKS.end();
    }

    private static void is(String what, Object due, Object got) {
        CHECKS.is(what, due, got);
    }

    private static PromisedStock star() {
        PromisedStock x = Checks.of("stage a 1 1;");
        for (int s = 1; s < 12; s++) {
            x.add(s < 6 ? s - 1 : 0, false, 1, 1);
        }
        return x;
    }

    private static void demands() {
        CHECKS.part("DEMAND of a STAGE (its own) on days 0 to 39: 0 to 999 each");
        PromisedStock x = star();
        for (int s : new int[] {0, 11}) {
            for (int day : new int[] {0, 1, 38, 39}) {
                is("at first", 0, x.demand(s, day, 999));
                is("999", 999, x.demand(s, day, 1));
                is("1", 1, x.day(s, day, 0));
                CHECKS.illegal("1000", () -> x.demand(s, day, 1000));
                CHECKS.illegal("-1", () -> x.demand(s, day, -1));
                is("1 stays", 1, x.demand(s, day, 0));
                is("0", 0, x.demand(s, day, 1));
            }
            CHECKS.noSuch("day 40", () -> x.demand(s, 40, 0));
            CHECKS.noSuch("day -1", () -> x.demand(s, -1, 0));
        }
        for (int s = 0; s < 12; s++) {
            for (int day = 0; day < 40; day += 13) {
                boolean edge = (s == 0 || s == 11) && (day == 0 || day == 39);
                is("of stage " + s + " on day " + day, edge ? 1 : 0, x.day(s, day, 0));
            }
        }
    }

    private static void demandsAtFirst() {
        CHECKS.part("(0 at first, and in a new NETWORK)");
        PromisedStock x = Checks.of(FIVE);
        for (int day = 0; day < 40; day++) {
            is("at first", 0, x.day(0, day, 0));
            x.demand(0, day, 9);
        }
        Checks.tell(x, FIVE);
        for (int day = 0; day < 40; day++) {
            is("in a new NETWORK", 0, x.day(0, day, 0));
            x.demand(0, day, 9);
        }
        Checks.tell(x, "stage");
        for (int day = 0; day < 40; day++) {
            is("not by a FAULT", 9, x.day(0, day, 0));
        }
    }

    private static void called() {
        CHECKS.part("CALLED of a STAGE on a day: its DEMAND and what is CALLED of its CUSTOMERS, together");
        PromisedStock x = star();
        for (int s = 0; s < 12; s++) {
            x.demand(s, 0, 999);
            x.demand(s, 39, 1 + s);
        }
        is("all", 12 * 999, x.day(0, 0, 1));
        is("all", 78, x.day(0, 39, 1));
        is("a row", 5 * 999, x.day(1, 0, 1));
        is("a row", 2 + 3 + 4 + 5 + 6, x.day(1, 39, 1));
        is("without CUSTOMERS", 999, x.day(11, 0, 1));
        is("its own", 999, x.day(0, 0, 0));
        is("another day", 0, x.day(0, 1, 1));
    }

    // DEMANDS of 5 on all days, and on one day more.
    private static PromisedStock fives(int day, int more) {
        PromisedStock x = Checks.of(FIVE);
        for (int d = 0; d < 40; d++) {
            x.demand(0, d, 5 + (d == day ? more : 0));
        }
        return x;
    }

    private static void breaksByOneMore() {
        CHECKS.part("It BREAKS, if .. what is CALLED of it is more than its BOUND of n days.");
        PromisedStock like = fives(0, 0);
        is("just the BOUND", NONE, like.days(0, 1));
        is("just the BOUND of 1", 0, like.day(0, 0, 3));
        is("just the BOUND of 40", 0, like.day(0, 39, 3));
        for (int day : new int[] {0, 1, 20, 38, 39}) {
            PromisedStock x = fives(day, 1);
            is("the first day", day, x.days(0, 1));
            for (int d = 0; d < 40; d++) {
                is("one more on day " + day + ": days that end with " + d, d < day ? 0 : d + 1, x.day(0, d, 3));
            }
        }
        PromisedStock x = fives(7, 1);
        x.demand(0, 6, 4);
        is("the first day", 7, x.days(0, 1));
        is("the day itself", 1, x.day(0, 7, 3));
        is("from day 7 on", 33, x.day(0, 39, 3));
    }

    private static void breaksOfManyDays() {
        CHECKS.part("the most days that BREAK its BOUND and end with it (0: none)");
        PromisedStock x = Checks.of(FIVE);
        x.demand(0, 0, 201);
        for (int d = 0; d < 40; d++) {
            is("ending with " + d, d + 1, x.day(0, d, 3));
        }
        x.demand(0, 0, 200);
        is("200 are the BOUND of 40 days", 0, x.day(0, 39, 3));
        is("not of 39", 39, x.day(0, 38, 3));
        x.demand(0, 0, 0);
        x.demand(0, 39, 200);
        is("40 days don't, 39 do", 39, x.day(0, 39, 3));
        is("the first", 39, x.days(0, 1));
        x.demand(0, 39, 6);
        is("one day does", 1, x.day(0, 39, 3));
        x.demand(0, 39, 5);
        is("none does", 0, x.day(0, 39, 3));
        is("none", NONE, x.days(0, 1));
    }

    private static void breaksWithARoot() {
        CHECKS.part("more than its BOUND of n days");
        PromisedStock x = Checks.of("stage a 2 1 demand 0 100;z 100;");
        // ROOTS of 1, 2, 3, 4 days are 10, 15, 18, 20.
        x.demand(0, 3, 10);
        is("just the BOUND of 1", NONE, x.days(0, 1));
        x.demand(0, 4, 5);
        is("just the BOUND of 2", NONE, x.days(0, 1));
        x.demand(0, 5, 3);
        is("just the BOUND of 3", NONE, x.days(0, 1));
        x.demand(0, 5, 4);
        is("more than that of 3", 5, x.days(0, 1));
        is("three days", 3, x.day(0, 5, 3));
        is("20 would be 4 days", 0, x.day(0, 6, 3));
        x.change(0, 6, 400);
        is("z", NONE, x.days(0, 1));
    }

    private static void onHandByTime() {
        CHECKS.part("BASE less what is CALLED on the NET days that end so many days ahead of it as its TIME is");
        PromisedStock x = Checks.of("stage a 0 1;stage b 3 1 demand 5 0;from a b;z 0;");
        x.demand(1, 10, 100);
        for (int wait : new int[] {0, 2, 30, 119}) {
            x.promise(0, wait);
            for (int time = 0; time <= wait + 3 && time <= 119; time += wait > 9 ? 7 : 1) {
                x.promise(1, time);
                int net = wait + 3 - time;
                for (int day : new int[] {0, 9, 10, 11, 12, 13, 25, 39}) {
                    int last = day - time;
                    boolean in = last >= 10 && last - net + 1 <= 10;
                    is("wait " + wait + " time " + time + " day " + day, 5 * net - (in ? 100 : 0), x.day(1, day, 2));
                }
            }
        }
    }

    private static void onHandOfEarlyDays() {
        CHECKS.part("(0 on days below 0)");
        PromisedStock x = Checks.of("stage a 9 1 outer 9 demand 5 0;z 0;");
        for (int day = 0; day < 40; day++) {
            x.demand(0, day, 1);
        }
        for (int day = 0; day < 40; day++) {
            is("on day " + day, 90 - Math.min(18, day + 1), x.day(0, day, 2));
        }
        x.promise(0, 17);
        for (int day = 0; day < 40; day++) {
            is("a day, 17 ahead of " + day, 5 - (day >= 17 ? 1 : 0), x.day(0, day, 2));
        }
    }

    private static void onHandOfNoNet() {
        CHECKS.part("(of NET 0: 0)");
        PromisedStock x = Checks.of(FIVE);
        x.demand(0, 0, 999);
        x.promise(0, 2);
        for (int day = 0; day < 40; day++) {
            is("on day " + day, 0, x.day(0, day, 2));
        }
        is("the least", 0, x.days(0, 2));
        is("short", 0, x.days(0, 0));
        x.promise(0, 1);
        is("net 1", 5 - 999, x.day(0, 1, 2));
        x.promise(0, 3);
        is("net -1", -1000000, x.day(0, 0, 2));
        is("net -1", -1000000, x.days(0, 2));
        is("net -1", NONE, x.days(0, 0));
        is("net -1: breaks all the same", 0, x.days(0, 1));
        is("net -1: demand all the same", 999, x.day(0, 0, 1));
    }

    private static void onHandOfManyDays() {
        CHECKS.part("ON HAND: NET days beyond the 40");
        PromisedStock x = Checks.of("stage a 0 1;stage b 9 1 demand 99 9999;from a b;z 400;");
        x.promise(0, 119);
        int base = x.planned(1, 4);
        for (int day = 0; day < 40; day++) {
            x.demand(1, day, 999);
        }
        is("net", 128, x.planned(1, 2));
        is("all forty", base - 40 * 999, x.day(1, 39, 2));
        is("the least", base - 40 * 999, x.days(1, 2));
        x.promise(1, 39);
        is("day 0 alone", x.planned(1, 4) - 999, x.day(1, 39, 2));
        is("none yet", x.planned(1, 4), x.day(1, 38, 2));
        x.promise(1, 40);
        is("none", x.planned(1, 4), x.day(1, 39, 2));
        is("never", x.planned(1, 4), x.days(1, 2));
    }

    private static void shortDays() {
        CHECKS.part("SHORT: days (0 to 39) on which ON HAND is below 0.");
        PromisedStock x = Checks.of(FIVE);
        for (int day = 0; day < 40; day++) {
            x.demand(0, day, 5);
        }
        is("just 0 on hand", 0, x.days(0, 2));
        is("isn't short", 0, x.days(0, 0));
        x.demand(0, 39, 6);
        is("one below", -1, x.days(0, 2));
        is("the last day", 1, x.days(0, 0));
        x.demand(0, 0, 6);
        is("days 1 and 39", 2, x.days(0, 0));
        x.demand(0, 0, 11);
        is("days 0, 1 and 39", 3, x.days(0, 0));
        for (int day = 0; day < 40; day++) {
            x.demand(0, day, 999);
        }
        is("all", 40, x.days(0, 0));
        is("the least", 10 - 2 * 999, x.days(0, 2));
    }

    private static void leastOnHand() {
        CHECKS.part("the least that is ON HAND on days 0 to 39");
        for (int day = 0; day < 40; day++) {
            PromisedStock x = Checks.of("stage a 1 1 demand 5 0;z 0;");
            x.demand(0, day, 7);
            is("on day " + day + " alone", -2, x.days(0, 2));
            is("short on day " + day + " alone", 1, x.days(0, 0));
            x.demand(0, day, 4);
            is("on day " + day + " alone", 1, x.days(0, 2));
            is("not short", 0, x.days(0, 0));
        }
    }

    private static PromisedStock two() {
        return Checks.of("stage a 2 1 outer 1 demand 3 4 promise 5;stage b 1 1;z 7;");
    }

    private static void eachIsAnAct() {
        CHECKS.part("ACTS: a STAGE added, a supply added, DAYS, COST, OUTER, MEAN, SPREAD, PROMISE, Z changed, a PIN set or taken (also as it is already)");
        PromisedStock x = two();
        int acts = 0;
        is("none", 0, x.count(5));
        for (int what = 0; what < 7; what++) {
            int was = what == 6 ? x.count(2) : x.stage(0, what);
            x.change(0, what, was);
            acts++;
            is("as it is already " + what, acts, x.count(5));
            x.change(0, what, 0);
            acts++;
            is("changed " + what, acts, x.count(5));
        }
        x.pin(1, NONE);
        is("no PIN taken", 15, x.count(5));
        x.pin(1, 4);
        is("set", 16, x.count(5));
        x.pin(1, 4);
        is("as it is already", 17, x.count(5));
        x.pin(1, NONE);
        is("taken", 18, x.count(5));
        x.supply(0, 1);
        is("a supply", 19, x.count(5));
        x.add(1, true, 1, 1);
        is("a STAGE", 20, x.count(5));
        int[] due = {2, 1, 1, 3, 4, 5, 7};
        is("the STAGE", 19, x.undo());
        is("the supply", 18, x.undo());
        for (int i = 0; i < 4; i++) {
            is("PINS", 17 - i, x.undo());
            is("PIN", i == 0 || i == 1 ? 4 : NONE, x.stage(1, 6));
        }
        for (int what = 6; what >= 0; what--) {
            x.undo();
            is("changed " + what, due[what], what == 6 ? x.count(2) : x.stage(0, what));
            is("as it was already " + what, 2 * what, x.undo());
            is("as it was already " + what, due[what], what == 6 ? x.count(2) : x.stage(0, what));
        }
        is("none any more", NONE, x.undo());
    }

    private static void refusedIsNoAct() {
        CHECKS.part("a call that is refused is no ACT");
        PromisedStock x = two();
        x.pin(0, 3);
        for (int what = 0; what < 7; what++) {
            int w = what;
            CHECKS.illegal("change " + w, () -> x.change(0, w, 10000));
            CHECKS.illegal("change " + w, () -> x.change(0, w, -2));
        }
        CHECKS.noSuch("change", () -> x.change(2, 0, 1));
        CHECKS.noSuch("change", () -> x.change(0, 7, 1));
        CHECKS.noSuch("pin", () -> x.pin(2, 0));
        CHECKS.illegal("pin", () -> x.pin(0, 120));
        is("add", NONE, x.add(2, true, 1, 1));
        is("supply", NONE, x.supply(0, 0));
        is("acts", 1, x.count(5));
        is("the one", 0, x.undo());
        is("it was the pin", NONE, x.stage(0, 6));
    }

    private static void othersAreNoActs() {
        CHECKS.part("only these are ACTS");
        PromisedStock x = two();
        x.change(0, 0, 9);
        x.promise(0, 1);
        x.demand(0, 0, 1);
        x.drawn(0, 1);
        x.take(1);
        x.take(2);
        x.pinned(0, 1);
        x.worth(0, 0);
        x.even(3);
        x.image();
        Checks.ask(x, "most days");
        Checks.tell(x, "x");
        is("acts", 1, x.count(5));
        is("undone", 0, x.undo());
        is("days", 2, x.stage(0, 0));
    }

    private static void latestTwenty() {
        CHECKS.part("the latest 20 can be UNDONE");
        for (int n : new int[] {1, 19, 20, 21, 22, 40, 41, 100}) {
            PromisedStock x = two();
            for (int i = 1; i <= n; i++) {
                x.change(0, 1, i + 1);
                is("kept", Math.min(i, 20), x.count(5));
            }
            int kept = Math.min(n, 20);
            for (int i = 1; i <= kept; i++) {
                is("still", kept - i, x.undo());
                is("cost", n + 1 - i, x.stage(0, 1));
            }
            is("none", NONE, x.undo());
            is("nothing changes", n + 1 - kept, x.stage(0, 1));
            is("kept", 0, x.count(5));
        }
    }

    // The first of 21 ACTS can't be UNDONE: what it did stays.
    private static void oldestOfEachKind() {
        CHECKS.part("the latest 20: the 21st from behind stays");
        for (int kind = 0; kind < 4; kind++) {
            for (int more = 19; more <= 20; more++) {
                PromisedStock x = two();
                switch (kind) {
                    case 0: x.add(0, true, 1, 1); break;
                    case 1: x.supply(0, 1); break;
                    case 2: x.pin(1, 3); break;
                    default: x.change(0, 6, 9); break;
                }
                for (int i = 0; i < more; i++) {
                    x.change(1, 1, i);
                }
                for (int i = 0; i < 20; i++) {
                    is("undo", 19 - i, x.undo());
                }
                is("none", NONE, x.undo());
                boolean stays = more == 20;
                is("stages", kind == 0 && stays ? 3 : 2, x.count(0));
                is("supplies", kind <= 1 && stays ? 1 : 0, x.count(1));
                is("pins", kind == 2 && stays ? 1 : 0, x.count(4));
                is("z", kind == 3 && stays ? 9 : 7, x.count(2));
                is("cost", 1, x.stage(1, 1));
            }
        }
    }

    private static void oneByOne() {
        CHECKS.part("UNDONE one by one, the latest first");
        PromisedStock x = two();
        x.change(0, 0, 3);
        x.change(0, 0, 4);
        x.change(1, 0, 5);
        x.change(0, 0, 6);
        is("two", 3, x.undo());
        is("days", 4, x.stage(0, 0));
        is("days", 5, x.stage(1, 0));
        x.change(0, 0, 7);
        is("kept", 4, x.count(5));
        is("undone", 3, x.undo());
        is("days", 4, x.stage(0, 0));
        is("undone", 2, x.undo());
        is("days", 1, x.stage(1, 0));
        is("undone", 1, x.undo());
        is("days", 3, x.stage(0, 0));
        is("undone", 0, x.undo());
        is("days", 2, x.stage(0, 0));
        is("undone", NONE, x.undo());
        Checks.tell(x, "stage a 1 1;");
        x.change(0, 0, 2);
        Checks.tell(x, "stage a 1 1;");
        is("no ACTS in a new NETWORK", NONE, x.undo());
    }

    private static void undoneIsAsItWas() {
        CHECKS.part("can be UNDONE: all is as it was");
        Twins.Doing[] acts = {x -> x.add(1, true, 2, 3), x -> x.add(1, false, 2, 3), x -> x.supply(3, 0), x -> x.supply(0, 3),
            x -> x.change(1, 0, 9), x -> x.change(1, 1, 9), x -> x.change(1, 2, 9), x -> x.change(1, 3, 9),
            x -> x.change(1, 4, 9), x -> x.change(1, 5, 9), x -> x.change(1, 5, NONE), x -> x.change(1, 6, 9),
            x -> x.pin(1, 9), x -> x.pin(1, NONE), x -> x.pin(2, 0)};
        for (int i = 0; i < acts.length; i++) {
            PromisedStock x = Checks.of("stage a 2 1 outer 1 demand 3 4 promise 5;stage b 1 2 outer 2 demand 4 5 promise 6;"
                + "stage c 1 1 demand 1 1;stage qwerty 4 4 outer 4 demand 4 4;from a b;from c b;z 7;");
            x.pin(1, 3);
            x.promise(0, 1);
            x.demand(2, 7, 7);
            String was = Twins.seen(x, true);
            acts[i].on(x);
            is("act " + i + " is seen", false, was.equals(Twins.seen(x, true)));
            is("act " + i + " undone", 1, x.undo());
            is("act " + i + ": all", was, Twins.seen(x, true));
        }
    }

    private static void ringOfActs() {
        CHECKS.part("the latest 20, after some were UNDONE");
        PromisedStock x = two();
        int[] stack = new int[200];
        int size = 0;
        int kept = 0;
        int now = 1;
        for (int step = 0; step < 200; step++) {
            // Up by 15, down by 8, again and again: the ACTS run round their room several times.
            if (step % 23 < 15) {
                stack[size] = now;
                size++;
                kept = Math.min(kept + 1, 20);
                now = step + 2;
                x.change(0, 1, now);
            } else {
                boolean can = kept > 0;
                kept -= can ? 1 : 0;
                is("undo in step " + step, can ? kept : NONE, x.undo());
                size -= can ? 1 : 0;
                now = can ? stack[size] : now;
            }
            is("cost in step " + step, now, x.stage(0, 1));
        }
    }

    private static void planAndDemandsStay() {
        CHECKS.part("(the PLAN at hand, DEMANDS stay");
        PromisedStock x = two();
        x.change(0, 3, 9);
        x.add(0, true, 1, 1);
        x.promise(0, 7);
        x.promise(1, 8);
        x.demand(0, 0, 70);
        x.demand(1, 39, 80);
        x.undo();
        x.undo();
        is("time", 7, x.planned(0, 0));
        is("time", 8, x.planned(1, 0));
        is("demand", 70, x.day(0, 0, 0));
        is("demand", 80, x.day(1, 39, 0));
    }

    private static void stageThatIsGone() {
        CHECKS.part("but those of a STAGE that isn't there any more are 0");
        PromisedStock x = two();
        int s = x.add(0, false, 1, 1);
        int supplier = x.add(0, true, 1, 1);
        for (int day = 0; day < 40; day++) {
            x.demand(s, day, 9);
            x.demand(supplier, day, 9);
        }
        x.promise(s, 5);
        x.promise(supplier, 50);
        is("called with it", 9, x.day(0, 0, 1));
        is("waits for it", 50, x.planned(0, 1));
        x.undo();
        CHECKS.noSuch("it isn't there", () -> x.day(supplier, 0, 0));
        is("waits for it no more", 1, x.planned(0, 1));
        is("called with the other one", 9, x.day(0, 0, 1));
        x.undo();
        CHECKS.noSuch("it isn't there", () -> x.day(s, 0, 0));
        CHECKS.noSuch("it isn't there", () -> x.planned(s, 0));
        CHECKS.noSuch("it isn't there", () -> x.letter(s, 0));
        is("called without it", 0, x.day(0, 0, 1));
        is("no customer", 0, x.stage(0, 11));
    }

    private static void stageThatComesAgain() {
        CHECKS.part("those of a STAGE that isn't there any more are 0: one of its number finds nothing of it");
        for (int way = 0; way < 4; way++) {
            PromisedStock x = two();
            int s = x.add(0, (way & 1) == 0, 9, 999);
            for (int what = 2; what < 6; what++) {
                x.change(s, what, 9);
            }
            x.pin(s, 9);
            for (int i = 0; i < 5; i++) {
                x.undo();
            }
            for (int day = 0; day < 40; day++) {
                x.demand(s, day, 9);
            }
            x.promise(s, 9);
            is("undone", 0, x.undo());
            is("again", s, x.add(1, (way & 2) == 0, 4, 5));
            int[] due = {4, 5, 0, 0, 0, NONE, NONE};
            for (int what = 0; what < 7; what++) {
                is("told " + what, due[what], x.stage(s, what));
            }
            for (int k = 0; k < 6; k++) {
                is("letter " + k, 0, x.letter(s, k));
            }
            is("suppliers", (way & 2) == 0 ? 0 : 2, x.stage(s, 10));
            is("customers", (way & 2) == 0 ? 2 : 0, x.stage(s, 11));
            is("time", 0, x.planned(s, 0));
            for (int day = 0; day < 40; day++) {
                is("demand", 0, x.day(s, day, 0));
            }
        }
    }
}
