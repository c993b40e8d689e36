/**
 * The edges of each call, promise by promise: what it takes up to them, how it refuses what is beyond them, and that a
 * refused call leaves all as it was. Twins shows the last: two objects made alike, one with the refused call more,
 * answer all later calls alike.
 */
public final class CallEdgesTest {
    private static final int NONE = PromisedStock.NONE;
    private static final int NO_NUMBER = -1000000;
    private static final Checks CHECKS = new Checks();
    private static final Twins RICH = new Twins(CHECKS, Recipes::rich);
    private static final Twins TWELVE = new Twins(CHECKS, Recipes::twelve);
    private static final Twins PLAIN = new Twins(CHECKS, Recipes::plain);
    private static final Twins NOTHING = new Twins(CHECKS, Recipes::nothing);
    // What no STAGE, no what, no TIME can be.
    private static final int[] FAR = {Integer.MIN_VALUE, -2, 1000000, Integer.MAX_VALUE};

    private CallEdgesTest() {
    }

    public static void main(String[] args) {
        newObject();
        feedUpToFull();
        feedHighestFirst();
        networkOfTheTape();
        networkForgets();
        fault();
        count();
        letter();
        stage();
        bound();
        change();
        changeBothWrong();
        changeZ();
        add();
        addWhenFull();
        supply();
        pin();
        undo();
        take();
        takeNoBest();
        promise();
        planned();
        plan();
        least();
        worth();
        even();
        budget();
        pinned();
        demand();
        drawn();
        day();
        days();
        ask();
        chain();
        frontier();
        image();
        back();
        backWithoutImage();
        fiveHundredAndTwelve();
        CHECKS.end();
    }

    private static void is(String what, Object due, Object got) {
        CHECKS.is(what, due, got);
    }

    private static void newObject() {
        CHECKS.part("1: A NETWORK without STAGES.");
        int[] due = {0, 0, 165, 0, 0, 0, 0};
        for (int what = 0; what < 7; what++) {
            is("count " + what, due[what], new PromisedStock().count(what));
        }
        is("fault", NONE, new PromisedStock().fault());
        is("undo", NONE, new PromisedStock().undo());
        is("back", false, new PromisedStock().back());
        for (int s = -1; s <= 1; s++) {
            int stage = s;
            NOTHING.noSuch("letter", x -> x.letter(stage, 0));
            NOTHING.noSuch("stage", x -> x.stage(stage, 0));
            NOTHING.noSuch("bound", x -> x.bound(stage, 0, 0));
            NOTHING.noSuch("change", x -> x.change(stage, 0, 0));
            NOTHING.noSuch("pin", x -> x.pin(stage, 0));
            NOTHING.noSuch("promise", x -> x.promise(stage, 0));
            NOTHING.noSuch("planned", x -> x.planned(stage, 0));
            NOTHING.noSuch("worth", x -> x.worth(stage, 0));
            NOTHING.noSuch("pinned", x -> x.pinned(stage, 0));
            NOTHING.noSuch("demand", x -> x.demand(stage, 0, 0));
            NOTHING.noSuch("drawn", x -> x.drawn(stage, 0));
            NOTHING.noSuch("day", x -> x.day(stage, 0, 0));
            NOTHING.noSuch("days", x -> x.days(stage, 0));
            NOTHING.noSuch("chain", x -> x.chain(stage, NONE));
            NOTHING.leavesAll("add", NONE, x -> x.add(stage, true, 1, 1));
            NOTHING.leavesAll("supply", NONE, x -> x.supply(stage, 0));
            NOTHING.leavesAll("supply", NONE, x -> x.supply(0, stage));
        }
        NOTHING.leavesAll("undo", NONE, x -> x.undo());
        NOTHING.leavesAll("least", 0, x -> x.least());
        NOTHING.leavesAll("back", false, x -> x.back());
        NOTHING.illegal("network", x -> x.network(1));
        NOTHING.illegal("ask", x -> x.ask(1));
        is("z can be changed", 165, new PromisedStock().change(0, 6, 7));
    }

    private static void feedBlanks(PromisedStock x, int times) {
        for (int i = 0; i < times; i++) {
            x.feed(0x20202020, 0x20202020, 0x20202020, 0x20202020, 0x20202020);
        }
    }

    private static void feedUpToFull() {
        CHECKS.part("2: how many it has; NONE, and none come, if it would have more than 400");
        PromisedStock x = new PromisedStock();
        for (int i = 1; i <= 20; i++) {
            is("feed " + i, 20 * i, x.feed(0, 0, 0, 0, 0));
            is("bytes", 20 * i, x.count(6));
        }
        for (int i = 0; i < 3; i++) {
            is("no more", NONE, x.feed(1, 2, 3, 4, 5));
            is("bytes", 400, x.count(6));
        }
        Twins full = new Twins(CHECKS, y -> {
            feedBlanks(y, 19);
            Checks.feed(y, "  z 5; stage a 1 9 ;");
        });
        full.leavesAll("a full tape", NONE, y -> y.feed(0x7a20393b, 0x7a20393b, 0x7a20393b, 0x7a20393b, 0x7a20393b));
        full.leavesAll("a full tape", NONE, y -> y.feed(-1, -1, -1, -1, -1));
        PromisedStock again = new PromisedStock();
        feedBlanks(again, 20);
        again.network(0);
        is("room again after network", 20, again.feed(0, 0, 0, 0, 0));
        again.ask(0);
        is("room again after ask", 20, again.feed(0, 0, 0, 0, 0));
    }

    private static void feedHighestFirst() {
        CHECKS.part("2: Twenty bytes come behind the tape, of each number the highest first");
        for (int place = 0; place < 20; place++) {
            int[] five = new int[5];
            for (int i = 0; i < 20; i++) {
                five[i / 4] = five[i / 4] << 8 | (i == place ? 255 : 32);
            }
            PromisedStock x = new PromisedStock();
            x.feed(five[0], five[1], five[2], five[3], five[4]);
            is("the byte " + place, -11, x.network(20));
            is("its place", place, x.fault());
            feedBlanks(x, 3);
            x.feed(five[0], five[1], five[2], five[3], five[4]);
            is("behind what is there", -11, x.network(80));
            is("its place", 60 + place, x.fault());
            x.feed(five[0], five[1], five[2], five[3], five[4]);
            is("ahead of it all is good", 0, x.network(place));
        }
    }

    private static void networkOfTheTape() {
        CHECKS.part("3: IllegalArgumentException: the tape has not so many, n below 0 (nothing changes).");
        RICH.range("n", 0, 40, Twins.ILLEGAL, (x, v) -> x.network(v));
        NOTHING.range("n without a tape", 0, 0, Twins.ILLEGAL, (x, v) -> x.network(v));
        new Twins(CHECKS, x -> feedBlanks(x, 20)).range("n of a full tape", 0, 400, Twins.ILLEGAL, (x, v) -> x.network(v));
        CHECKS.part("3: The tape's first n bytes (it is empty then, whatever comes of it)");
        for (int n : new int[] {0, 1, 11, 12, 24, 39, 40}) {
            PromisedStock x = new PromisedStock();
            Recipes.rich(x);
            int answer = x.network(n);
            is("network " + n, n == 0 ? 0 : n == 12 ? 1 : n == 24 ? 2 : n >= 39 ? 2 : -11, answer);
            is("the tape", 0, x.count(6));
            is("fault", n == 1 ? 0 : n == 11 ? 11 : NONE, x.fault());
            CHECKS.illegal("it is empty", () -> x.network(1));
        }
    }

    private static void networkForgets() {
        CHECKS.part("3: (no PINS, no ACTS are kept then)");
        PromisedStock x = new PromisedStock();
        Recipes.rich(x);
        is("pins", 1, x.count(4));
        is("acts", 6, x.count(5));
        is("stages", 2, x.network(40));
        is("pins", 0, x.count(4));
        is("pin", NONE, x.stage(0, 6));
        is("acts", 0, x.count(5));
        is("undo", NONE, x.undo());
        is("times", 0, x.planned(0, 0) + x.planned(1, 0));
        is("demands", 0, x.day(0, 39, 0) + x.day(1, 3, 0));
        is("z", 7, x.count(2));
        is("what image() kept stays", true, x.back());
        is("what image() kept stays", 11, x.stage(1, 1));
        PromisedStock y = new PromisedStock();
        Recipes.rich(y);
        y.network(1);
        is("a FAULT: pins", 1, y.count(4));
        is("a FAULT: acts", 6, y.count(5));
        is("a FAULT: undo", 5, y.undo());
    }

    private static void fault() {
        CHECKS.part("4: the latest of these that was no IllegalArgumentException; NONE: it had none, or there was none");
        PromisedStock x = new PromisedStock();
        is("there was none", NONE, x.fault());
        CHECKS.illegal("network", () -> x.network(-1));
        CHECKS.illegal("ask", () -> x.ask(201));
        is("there was none", NONE, x.fault());
        Checks.tell(x, "z  x");
        is("of network", 3, x.fault());
        is("asked again", 3, x.fault());
        CHECKS.illegal("network", () -> x.network(1));
        CHECKS.illegal("ask", () -> x.ask(1));
        is("stays", 3, x.fault());
        Checks.ask(x, "many   ");
        is("of ask", 7, x.fault());
        CHECKS.illegal("ask", () -> x.ask(-1));
        is("stays", 7, x.fault());
        Checks.tell(x, "z 1;");
        is("network had none", NONE, x.fault());
        Checks.ask(x, "");
        is("of ask, at 0", 0, x.fault());
        Checks.ask(x, "most 1");
        is("ask had none", NONE, x.fault());
        Checks.tell(x, "z 4");
        x.change(0, 6, 1);
        x.undo();
        x.image();
        x.back();
        x.feed(1, 2, 3, 4, 5);
        is("other calls leave it", 3, x.fault());
        is("fault of a text of 400", 400, faultOfFullTape());
        RICH.leavesAll("fault", 4, y -> y.fault());
    }

    private static int faultOfFullTape() {
        PromisedStock x = new PromisedStock();
        feedBlanks(x, 19);
        Checks.feed(x, "               z 400");
        x.network(400);
        return x.fault();
    }

    private static void count() {
        CHECKS.part("5: NoSuchElementException: another what.");
        RICH.range("what", 0, 6, Twins.NO_SUCH, (x, v) -> x.count(v));
        int[] due = {3, 2, 200, 1, 1, 6, 40};
        for (int what = 0; what < 7; what++) {
            int w = what;
            RICH.leavesAll("count " + w, due[w], x -> x.count(w));
        }
        PromisedStock x = new PromisedStock();
        Recipes.twelve(x);
        is("stages", 12, x.count(0));
        is("supplies", 11, x.count(1));
        is("parts", 1, x.count(3));
        is("acts", 20, x.count(5));
        for (int s = 0; s < 12; s++) {
            x.pin(s, 0);
        }
        is("pins", 12, x.count(4));
    }

    private static void letter() {
        CHECKS.part("6: NoSuchElementException: no such STAGE, k.");
        RICH.range("stage", 0, 2, Twins.NO_SUCH, (x, v) -> x.letter(v, 0));
        RICH.range("k", 0, 5, Twins.NO_SUCH, (x, v) -> x.letter(0, v));
        TWELVE.range("stage of 12", 0, 11, Twins.NO_SUCH, (x, v) -> x.letter(v, 5));
        CHECKS.part("6: 1 to 26; 0 behind it.");
        PromisedStock x = Checks.of("stage abcdef 1 1;stage ghijkl 1 1;stage mnopqr 1 1;stage stuvwx 1 1;stage yz 1 1;");
        for (int i = 0; i < 30; i++) {
            is("letter " + i, i < 26 ? i + 1 : 0, x.letter(i / 6, i % 6));
        }
    }

    private static void stage() {
        CHECKS.part("7: NoSuchElementException: no such STAGE, another what.");
        RICH.range("stage", 0, 2, Twins.NO_SUCH, (x, v) -> x.stage(v, 11));
        RICH.range("what", 0, 11, Twins.NO_SUCH, (x, v) -> x.stage(2, v));
        TWELVE.range("stage of 12", 0, 11, Twins.NO_SUCH, (x, v) -> x.stage(v, 0));
        CHECKS.part("7: 10 who supplies it (bits), 11 CUSTOMERS (bits)");
        PromisedStock x = Checks.of("stage a 1 1;");
        for (int s = 1; s < 12; s++) {
            x.add(0, s % 2 == 0, 1, 1);
        }
        is("suppliers", 0b010101010100, x.stage(0, 10));
        is("customers", 0b101010101010, x.stage(0, 11));
        is("the last one's", 1, x.stage(11, 10));
    }

    private static void bound() {
        CHECKS.part("8: NoSuchElementException: no such STAGE, another how. IllegalArgumentException (behind that): n.");
        RICH.range("stage", 0, 2, Twins.NO_SUCH, (x, v) -> x.bound(v, 0, 1));
        RICH.range("how", 0, 1, Twins.NO_SUCH, (x, v) -> x.bound(1, v, 1));
        RICH.range("n of ROOT", 0, 999, Twins.ILLEGAL, (x, v) -> x.bound(1, 0, v));
        RICH.range("n of BOUND", 0, 999, Twins.ILLEGAL, (x, v) -> x.bound(1, 1, v));
        for (int far : FAR) {
            for (int n : new int[] {-1, 1000, far}) {
                RICH.noSuch("stage and n", x -> x.bound(far, 0, n));
                RICH.noSuch("how and n", x -> x.bound(0, far, n));
            }
        }
        RICH.noSuch("stage 3 and n", x -> x.bound(3, 1, 1000));
        RICH.noSuch("how 2 and n", x -> x.bound(0, 2, -1));
    }

    private static void change() {
        CHECKS.part("9: NoSuchElementException: no such STAGE, another what. IllegalArgumentException (behind that): v.");
        int[] most = {9, 999, 9, 99, 9999, 20, 400};
        for (int what = 0; what < 7; what++) {
            int w = what;
            RICH.range("v of what " + w, w == 5 ? NONE : 0, most[w], Twins.ILLEGAL, (x, v) -> {
                int was = x.change(1, w, v);
                return was == NONE && w != 5 ? Twins.ILLEGAL : (Object) was;
            });
            if (w < 6) {
                RICH.range("stage of what " + w, 0, 2, Twins.NO_SUCH, (x, v) -> x.change(v, w, 1));
                TWELVE.range("stage of 12, what " + w, 0, 11, Twins.NO_SUCH, (x, v) -> x.change(v, w, 1));
            }
        }
        RICH.range("what", 0, 6, Twins.NO_SUCH, (x, v) -> x.change(1, v, 0));
        CHECKS.part("9: become v: what it was");
        PromisedStock x = new PromisedStock();
        Recipes.twelve(x);
        for (int s = 0; s < 12; s += 11) {
            for (int what = 0; what < 6; what++) {
                int was = x.stage(s, what);
                is("it was", was, x.change(s, what, most[what]));
                is("it is", most[what], x.stage(s, what));
                is("it was", most[what], x.change(s, what, 0));
                is("it is", 0, x.stage(s, what));
            }
            is("PROMISE none", 0, x.change(s, 5, NONE));
            is("PROMISE none", NONE, x.stage(s, 5));
            is("PROMISE was none", NONE, x.change(s, 5, 20));
        }
    }

    private static void changeBothWrong() {
        CHECKS.part("9: IllegalArgumentException (behind that)");
        for (int what = 0; what < 6; what++) {
            int w = what;
            RICH.noSuch("stage 3 and v", x -> x.change(3, w, 10000));
            RICH.noSuch("stage -1 and v", x -> x.change(-1, w, -2));
        }
        RICH.noSuch("what 7 and v", x -> x.change(0, 7, -1000));
        RICH.noSuch("what -1 and v", x -> x.change(0, -1, Integer.MAX_VALUE));
        RICH.noSuch("stage, what and v", x -> x.change(99, 99, 99999));
        RICH.noSuch("stage and what", x -> x.change(-1, 7, 0));
    }

    private static void changeZ() {
        CHECKS.part("9: Z (6; stage is any)");
        for (int stage : new int[] {0, 2, 3, -1, 12, Integer.MIN_VALUE, Integer.MAX_VALUE}) {
            PromisedStock x = new PromisedStock();
            Recipes.rich(x);
            is("stage " + stage, 200, x.change(stage, 6, 400));
            is("z", 400, x.count(2));
            is("z", 400, x.change(stage, 6, 0));
            is("z", 0, x.count(2));
            is("an ACT", 8, x.count(5));
            is("undone", 7, x.undo());
            is("z", 400, x.count(2));
            RICH.illegal("stage " + stage + " v 401", y -> y.change(stage, 6, 401));
            RICH.illegal("stage " + stage + " v -1", y -> y.change(stage, 6, -1));
        }
    }

    private static void add() {
        CHECKS.part("10: NONE (nothing changes): there are 12, no such STAGE, DAYS, COST.");
        for (boolean up : new boolean[] {false, true}) {
            RICH.range("stage", 0, 2, NONE, (x, v) -> x.add(v, up, 1, 1));
            RICH.range("days", 0, 9, NONE, (x, v) -> x.add(0, up, v, 1));
            RICH.range("cost", 0, 999, NONE, (x, v) -> x.add(0, up, 1, v));
            RICH.leavesAll("all wrong", NONE, x -> x.add(-1, up, -1, -1));
            RICH.leavesAll("all wrong", NONE, x -> x.add(3, up, 10, 1000));
        }
        CHECKS.part("10: a STAGE more, without a NAME (all its letters are 0), with DAYS and a COST, without OUTER, demand, PROMISE");
        PromisedStock x = new PromisedStock();
        Recipes.rich(x);
        is("its number", 3, x.add(1, true, 9, 999));
        int[] due = {9, 999, 0, 0, 0, NONE, NONE, 4, 41, 9, 0, 2};
        for (int what = 0; what < 12; what++) {
            is("what " + what, due[what], x.stage(3, what));
        }
        is("its number", 4, x.add(3, false, 0, 0));
        int[] other = {0, 0, 0, 0, 0, NONE, NONE, 0, 0, 9, 8, 0};
        for (int what = 0; what < 12; what++) {
            is("what " + what, other[what], x.stage(4, what));
        }
        for (int k = 0; k < 6; k++) {
            is("letter", 0, x.letter(3, k) + x.letter(4, k));
        }
        is("acts", 8, x.count(5));
        PromisedStock older = Checks.of("stage a 1 1;stage qwerty 1 1;stage asdfgh 1 1;");
        Checks.tell(older, "stage a 1 1;");
        for (int s = 1; s < 12; s++) {
            is("behind a NETWORK with fewer STAGES", s, older.add(0, true, 1, 1));
            for (int k = 0; k < 6; k++) {
                is("letter", 0, older.letter(s, k));
            }
        }
    }

    private static void addWhenFull() {
        CHECKS.part("10: NONE (nothing changes): there are 12");
        PromisedStock x = Checks.of("stage a 1 1;");
        for (int s = 1; s < 12; s++) {
            is("up to 12", s, x.add(s - 1, true, 1, 1));
        }
        is("there are 12", NONE, x.add(0, true, 1, 1));
        is("there are 12", 12, x.count(0));
        TWELVE.leavesAll("there are 12", NONE, y -> y.add(0, true, 1, 1));
        TWELVE.leavesAll("there are 12", NONE, y -> y.add(11, false, 9, 999));
        TWELVE.leavesAll("there are 12, and no such STAGE", NONE, y -> y.add(12, false, 9, 999));
        is("undone", 10, x.undo());
        is("room again", 11, x.add(0, true, 1, 1));
        is("there are 12", NONE, x.add(0, true, 1, 1));
    }

    private static void supply() {
        CHECKS.part("11: NONE (nothing changes): no such STAGES, they are in one part already.");
        PLAIN.range("from", 0, 0, NONE, (x, v) -> x.supply(v, 1));
        PLAIN.range("to", 1, 1, NONE, (x, v) -> x.supply(0, v));
        PLAIN.range("from", 1, 1, NONE, (x, v) -> x.supply(v, 0));
        PLAIN.range("to", 0, 0, NONE, (x, v) -> x.supply(1, v));
        for (int from = -1; from <= 3; from++) {
            for (int to = -1; to <= 3; to++) {
                int f = from;
                int t = to;
                RICH.leavesAll("supply " + f + " " + t, NONE, x -> x.supply(f, t));
            }
        }
        TWELVE.leavesAll("supply 0 11", NONE, x -> x.supply(0, 11));
        TWELVE.leavesAll("supply 11 0", NONE, x -> x.supply(11, 0));
        CHECKS.part("11: SUPPLIES then");
        PromisedStock x = Checks.of("stage a 1 1;stage b 1 1;stage c 1 1;stage d 1 1;");
        is("one", 1, x.supply(3, 0));
        is("two", 2, x.supply(1, 2));
        is("three", 3, x.supply(2, 3));
        is("all in one part", NONE, x.supply(1, 0));
        x.undo();
        is("two parts again", 3, x.supply(1, 0));
    }

    private static void pin() {
        CHECKS.part("12: NoSuchElementException: no such STAGE. IllegalArgumentException (behind that): no such TIME.");
        RICH.range("stage", 0, 2, Twins.NO_SUCH, (x, v) -> x.pin(v, 0));
        RICH.range("time", NONE, 119, Twins.ILLEGAL, (x, v) -> x.pin(0, v));
        TWELVE.range("stage of 12", 0, 11, Twins.NO_SUCH, (x, v) -> x.pin(v, 119));
        RICH.noSuch("stage 3 and time", x -> x.pin(3, 120));
        RICH.noSuch("stage -1 and time", x -> x.pin(-1, -2));
        CHECKS.part("12: a PIN of a STAGE (0 to 119; NONE: none): what it was");
        PromisedStock x = new PromisedStock();
        Recipes.rich(x);
        int[] times = {0, 119, NONE, NONE, 118, 118, 1, 0};
        int was = 1;
        for (int time : times) {
            is("it was", was, x.pin(0, time));
            is("it is", time, x.stage(0, 6));
            is("pins", time == NONE ? 0 : 1, x.count(4));
            was = time;
        }
        is("acts", 14, x.count(5));
    }

    private static void undo() {
        CHECKS.part("13: how many still can be; NONE: none can");
        PLAIN.leavesAll("undo", NONE, x -> x.undo());
        NOTHING.leavesAll("undo", NONE, x -> x.undo());
        new Twins(CHECKS, x -> {
            Recipes.rich(x);
            x.back();
        }).leavesAll("undo after back", NONE, x -> x.undo());
        PromisedStock x = new PromisedStock();
        Recipes.twelve(x);
        for (int i = 19; i >= 0; i--) {
            is("undo", i, x.undo());
        }
        is("none", NONE, x.undo());
        is("none", NONE, x.undo());
        is("stages of the ACTS that aren't kept", 5, x.count(0));
        is("an ACT again", 165, x.change(0, 6, 3));
        is("one", 0, x.undo());
        is("none", NONE, x.undo());
    }

    private static void take() {
        CHECKS.part("14: The PLAN at hand becomes one by a RULE (0 to 3): .. NONE (nothing changes): no such RULE");
        RICH.range("rule", 0, 3, NONE, (x, v) -> x.take(v));
        NOTHING.range("rule without STAGES", 0, 3, NONE, (x, v) -> x.take(v));
        CHECKS.part("14: its PRICE; -2: it doesn't HOLD");
        PromisedStock x = Checks.of("stage a 2 5 demand 3 100;z 100;");
        is("rule 0", 75, x.take(0));
        is("rule 1", 0, x.take(1));
        is("time", 2, x.planned(0, 0));
        is("rule 3", 50, x.take(3));
        is("time", 1, x.planned(0, 0));
        is("rule 2", 0, x.take(2));
        x.pin(0, 1);
        is("rule 0", -2, x.take(0));
        is("it is taken all the same", 0, x.planned(0, 0));
        is("rule 1", 50, x.take(1));
        is("rule 2", 50, x.take(2));
        is("rule 3", 50, x.take(3));
        x.pin(0, 3);
        is("rule 1", -2, x.take(1));
        is("it is taken all the same", 2, x.planned(0, 0));
        is("rule 2", NONE, x.take(2));
        is("nothing changes", 2, x.planned(0, 0));
        is("rule 3", -2, x.take(3));
        is("it is taken all the same", 3, x.planned(0, 0));
        is("no acts", 2, x.count(5));
    }

    private static void takeNoBest() {
        CHECKS.part("14: NONE (nothing changes): .. there is no BEST");
        Twins none = new Twins(CHECKS, x -> {
            Recipes.rich(x);
            x.pin(2, 119);
        });
        none.leavesAll("take 2", NONE, x -> x.take(2));
        none.leavesAll("take 4", NONE, x -> x.take(4));
        none.leavesAll("least", NONE, x -> x.least());
    }

    private static void promise() {
        CHECKS.part("15: NoSuchElementException: no such STAGE. IllegalArgumentException (behind that): no such TIME.");
        RICH.range("stage", 0, 2, Twins.NO_SUCH, (x, v) -> x.promise(v, 0));
        RICH.range("time", 0, 119, Twins.ILLEGAL, (x, v) -> x.promise(0, v));
        TWELVE.range("stage of 12", 0, 11, Twins.NO_SUCH, (x, v) -> x.promise(v, 119));
        RICH.noSuch("stage 3 and time", x -> x.promise(3, 120));
        RICH.noSuch("stage -1 and time", x -> x.promise(-1, -1));
        CHECKS.part("15: becomes that: what it was");
        PromisedStock x = new PromisedStock();
        Recipes.rich(x);
        is("it was", 4, x.promise(2, 119));
        is("it is", 119, x.planned(2, 0));
        is("it was", 119, x.promise(2, 0));
        is("it is", 0, x.planned(2, 0));
        is("of that STAGE alone", 1, x.planned(0, 0));
        is("no ACT", 6, x.count(5));
    }

    private static void planned() {
        CHECKS.part("16: NoSuchElementException: no such STAGE, another what.");
        RICH.range("stage", 0, 2, Twins.NO_SUCH, (x, v) -> x.planned(v, 0));
        RICH.range("what", 0, 5, Twins.NO_SUCH, (x, v) -> x.planned(0, v));
        TWELVE.range("stage of 12", 0, 11, Twins.NO_SUCH, (x, v) -> x.planned(v, 0));
        CHECKS.part("16: (3 to 5: NONE, if NET is below 0)");
        PromisedStock x = Checks.of("stage a 2 5 demand 3 100;z 100;");
        int[][] due = {{0, 0, 2, 15, 21, 75}, {1, 0, 1, 10, 13, 50}, {2, 0, 0, 0, 0, 0}, {3, 0, -1, NONE, NONE, NONE}};
        for (int time = 0; time < 4; time++) {
            x.promise(0, time);
            for (int what = 0; what < 6; what++) {
                is("time " + time + " what " + what, due[time][what], x.planned(0, what));
            }
        }
    }

    private static void plan() {
        CHECKS.part("17: NoSuchElementException: another what.");
        RICH.range("what", 0, 2, Twins.NO_SUCH, (x, v) -> x.plan(v));
        CHECKS.part("17: (what 0; NONE: it doesn't HOLD), the first STAGE by which it doesn't HOLD (1; NONE: it does), STAGES that hold something (2, bits; those of NET below 0 don't)");
        PromisedStock x = new PromisedStock();
        Recipes.twelve(x);
        x.take(0);
        is("a PIN of 2 isn't kept", 4, x.plan(1));
        is("price", NONE, x.plan(0));
        x.promise(4, 2);
        is("it HOLDS", NONE, x.plan(1));
        is("price is there", true, x.plan(0) >= 0);
        x.promise(11, 119);
        is("the last", 11, x.plan(1));
        x.promise(0, 119);
        is("the first", 0, x.plan(1));
        PromisedStock y = Checks.of("stage a 1 0 demand 0 1;stage b 1 1 demand 9 0;stage c 0 1 demand 0 9;stage d 1 1 demand 0 9;");
        is("of COST 0, of SPREAD 0, of NET 0, of NET 1", 0b1001, y.plan(2));
        y.promise(3, 2);
        is("of NET below 0", 0b0001, y.plan(2));
        y.change(0, 6, 0);
        is("of Z 0", 0, y.plan(2));
        PromisedStock all = Checks.of("stage a 1 1 demand 1 1;");
        for (int s = 1; s < 12; s++) {
            all.change(all.add(0, true, 1, 1), 4, 1);
        }
        is("all twelve", 0xfff, all.plan(2));
    }

    private static void least() {
        CHECKS.part("18: PRICE of BEST; NONE: there is none.");
        RICH.leavesAll("least", RICH_LEAST, x -> x.least());
        PromisedStock x = Checks.of("stage a 2 5 demand 3 100 promise 0;z 100;");
        is("there is one", 75, x.least());
        x.pin(0, 1);
        is("there is none", NONE, x.least());
        x.pin(0, 0);
        is("there is one", 75, x.least());
        is("the PLAN at hand doesn't count", 0, x.promise(0, 119));
        is("there is one", 75, x.least());
    }

    // Z 200. The mill is pinned at 1: NET 2, WIDTH 41. What the shop may promise is 3 at most, which is its WAIT of 1
    // and its 2 DAYS: it holds nothing, and the last one, of WIDTH 25, has no PROMISE.
    private static final int RICH_LEAST = 2 * 19;

    private static void worth() {
        CHECKS.part("19: -1000000: none. NoSuchElementException: no such STAGE, another what.");
        RICH.range("stage", 0, 2, Twins.NO_SUCH, (x, v) -> x.worth(v, 0));
        RICH.range("what", 0, 2, Twins.NO_SUCH, (x, v) -> x.worth(1, v));
        TWELVE.range("stage of 12", 0, 11, Twins.NO_SUCH, (x, v) -> x.worth(v, 2));
        for (int stage = 0; stage < 3; stage++) {
            for (int what = 0; what < 3; what++) {
                int s = stage;
                int w = what;
                PromisedStock x = new PromisedStock();
                Recipes.rich(x);
                RICH.leavesAll("worth " + s + " " + w, x.worth(s, w), y -> y.worth(s, w));
            }
        }
        Twins none = new Twins(CHECKS, x -> {
            Recipes.rich(x);
            x.pin(2, 119);
        });
        none.leavesAll("a DAY", NO_NUMBER, x -> x.worth(0, 0));
        none.leavesAll("a PROMISE", NO_NUMBER, x -> x.worth(1, 1));
        none.leavesAll("a PIN", NO_NUMBER, x -> x.worth(0, 2));
        none.leavesAll("no PROMISE", 0, x -> x.worth(0, 1));
        none.leavesAll("no PIN", 0, x -> x.worth(1, 2));
    }

    private static void even() {
        CHECKS.part("20: PRICE by EVEN PROMISES p; NONE: there is no BEST then. IllegalArgumentException: p.");
        RICH.range("p", 0, 20, Twins.ILLEGAL, (x, v) -> x.even(v));
        NOTHING.range("p without STAGES", 0, 20, Twins.ILLEGAL, (x, v) -> x.even(v));
        for (int p = 0; p <= 20; p += 5) {
            int q = p;
            PromisedStock x = new PromisedStock();
            Recipes.rich(x);
            RICH.leavesAll("even " + q, x.even(q), y -> y.even(q));
        }
        PromisedStock x = Checks.of("stage a 2 5 demand 3 100;z 100;");
        x.pin(0, 1);
        is("a PIN above p", NONE, x.even(0));
        is("a PIN like p", 50, x.even(1));
        x.pin(0, 2);
        is("after another PIN", NONE, x.even(1));
        is("after another PIN", 0, x.even(2));
        x.undo();
        is("after undo", 50, x.even(1));
        x.change(0, 6, 200);
        is("after another Z", 100, x.even(1));
        x.undo();
        is("after undo", 50, x.even(1));
        x.image();
        x.change(0, 1, 6);
        is("after another COST", 60, x.even(1));
        x.back();
        is("after back", 50, x.even(1));
        x.add(0, false, 0, 0);
        is("after a STAGE more", 50, x.even(0));
        Checks.tell(x, "stage a 2 7 demand 3 100;z 100;");
        is("after a new NETWORK", 70, x.even(1));
        x.add(0, true, 1, 1);
        is("after a supplier more", 10 + 70, x.even(1));
    }

    private static void budget() {
        CHECKS.part("21: p; NONE: none.");
        for (int price : new int[] {Integer.MIN_VALUE, -1, 0, 100, Integer.MAX_VALUE}) {
            PromisedStock x = new PromisedStock();
            Recipes.rich(x);
            RICH.leavesAll("budget " + price, x.budget(price), y -> y.budget(price));
        }
        PromisedStock x = Checks.of("stage a 2 5 demand 3 100;z 100;");
        int[][] due = {{75, 0}, {74, 1}, {50, 1}, {49, 2}, {0, 2}, {-1, NONE}, {Integer.MIN_VALUE, NONE}, {Integer.MAX_VALUE, 0}};
        for (int[] d : due) {
            is("budget " + d[0], d[1], x.budget(d[0]));
        }
    }

    private static void pinned() {
        CHECKS.part("22: NoSuchElementException: no such STAGE. IllegalArgumentException (behind that): no such TIME.");
        RICH.range("stage", 0, 2, Twins.NO_SUCH, (x, v) -> x.pinned(v, 0));
        RICH.range("time", 0, 119, Twins.ILLEGAL, (x, v) -> x.pinned(0, v));
        TWELVE.range("stage of 12", 0, 11, Twins.NO_SUCH, (x, v) -> x.pinned(v, 119));
        RICH.noSuch("stage 3 and time", x -> x.pinned(3, 120));
        RICH.noSuch("stage -1 and time", x -> x.pinned(-1, -1));
        CHECKS.part("22: PRICE of BEST with all else as it is, but this STAGE's PIN being that TIME; NONE: there is no BEST then.");
        RICH.leavesAll("its own PIN", RICH_LEAST, x -> x.pinned(0, 1));
        RICH.leavesAll("as late as can be: the mill holds nothing, the shop two days", 11 * 19, x -> x.pinned(0, 3));
        RICH.leavesAll("a day later", NONE, x -> x.pinned(0, 4));
        RICH.leavesAll("119", NONE, x -> x.pinned(0, 119));
        RICH.leavesAll("above a PROMISE", NONE, x -> x.pinned(1, 4));
    }

    private static void demand() {
        CHECKS.part("23: NoSuchElementException: no such STAGE, day. IllegalArgumentException (behind that): v.");
        RICH.range("stage", 0, 2, Twins.NO_SUCH, (x, v) -> x.demand(v, 0, 0));
        RICH.range("day", 0, 39, Twins.NO_SUCH, (x, v) -> x.demand(0, v, 0));
        RICH.range("v", 0, 999, Twins.ILLEGAL, (x, v) -> x.demand(0, 3, v));
        TWELVE.range("stage of 12", 0, 11, Twins.NO_SUCH, (x, v) -> x.demand(v, 39, 999));
        RICH.noSuch("stage 3 and v", x -> x.demand(3, 0, 1000));
        RICH.noSuch("stage -1 and v", x -> x.demand(-1, 0, -1));
        RICH.noSuch("day 40 and v", x -> x.demand(0, 40, 1000));
        RICH.noSuch("day -1 and v", x -> x.demand(0, -1, -1));
        CHECKS.part("23: becomes v: what it was");
        PromisedStock x = new PromisedStock();
        Recipes.twelve(x);
        is("it was", 999, x.demand(11, 39, 0));
        is("it was", 0, x.demand(11, 39, 5));
        is("it is", 5, x.day(11, 39, 0));
        is("the day ahead of it", 0, x.day(11, 38, 0));
        is("no ACT", 20, x.count(5));
    }

    private static int[] draws(int seed, int n) {
        long state = seed;
        int[] out = new int[40];
        for (int day = 0; day < 40; day++) {
            state = state * 1103515245L + 12345L & 0xffffffffL;
            out[day] = (int) ((state >> 16 & 0x7fffL) % n);
        }
        return out;
    }

    private static void drawn() {
        CHECKS.part("24: NoSuchElementException: no such STAGE.");
        RICH.range("stage", 0, 2, Twins.NO_SUCH, (x, v) -> x.drawn(v, 1));
        TWELVE.range("stage of 12", 0, 11, Twins.NO_SUCH, (x, v) -> x.drawn(v, 1));
        CHECKS.part("24: DRAWS of 2 MEAN and 1 by a seed: .. (an int that wraps); its bits 16 to 30 MOD n");
        int[] seeds = {0, 1, -1, 2, 65535, 65536, Integer.MIN_VALUE, Integer.MIN_VALUE + 1, Integer.MAX_VALUE, 1103515245, -12345};
        for (int mean : new int[] {0, 1, 49, 98, 99}) {
            PromisedStock x = Checks.of("stage a 1 1;stage b 1 1 demand " + mean + " 7;");
            for (int seed : seeds) {
                int[] due = draws(seed, 2 * mean + 1);
                int together = 0;
                for (int draw : due) {
                    together += draw;
                }
                x.demand(1, 5, 999);
                is("together, mean " + mean + " seed " + seed, together, x.drawn(1, seed));
                for (int day : new int[] {0, 1, 5, 20, 38, 39}) {
                    is("day " + day, due[day], x.day(1, day, 0));
                    is("of that STAGE alone", 0, x.day(0, day, 0));
                }
            }
            is("no ACT", 0, x.count(5));
        }
    }

    private static void day() {
        CHECKS.part("25: NoSuchElementException: no such STAGE, day, another what.");
        RICH.range("stage", 0, 2, Twins.NO_SUCH, (x, v) -> x.day(v, 0, 0));
        RICH.range("day", 0, 39, Twins.NO_SUCH, (x, v) -> x.day(0, v, 2));
        RICH.range("what", 0, 3, Twins.NO_SUCH, (x, v) -> x.day(0, 39, v));
        TWELVE.range("stage of 12", 0, 11, Twins.NO_SUCH, (x, v) -> x.day(v, 39, 3));
        RICH.noSuch("all wrong", x -> x.day(3, 40, 4));
        CHECKS.part("25: 2 ON HAND (-1000000: NET is below 0)");
        PromisedStock x = Checks.of("stage a 2 5 demand 3 0;z 0;");
        int[] due = {6, 3, 0, NO_NUMBER};
        for (int time = 0; time < 4; time++) {
            x.promise(0, time);
            is("on hand by time " + time, due[time], x.day(0, 0, 2));
            is("on hand by time " + time, due[time], x.day(0, 39, 2));
        }
    }

    private static void days() {
        CHECKS.part("26: NoSuchElementException: no such STAGE, another what.");
        RICH.range("stage", 0, 2, Twins.NO_SUCH, (x, v) -> x.days(v, 0));
        RICH.range("what", 0, 2, Twins.NO_SUCH, (x, v) -> x.days(0, v));
        TWELVE.range("stage of 12", 0, 11, Twins.NO_SUCH, (x, v) -> x.days(v, 2));
        RICH.noSuch("both wrong", x -> x.days(3, 3));
        CHECKS.part("26: 0 SHORT (NONE: NET is below 0), 1 the first day with which days end that BREAK (NONE: none), 2 the least that is ON HAND on days 0 to 39 (-1000000: NET is below 0)");
        PromisedStock x = Checks.of("stage a 2 5 demand 3 0;z 0;");
        int[][] due = {{0, NONE, 6}, {0, NONE, 3}, {0, NONE, 0}, {NONE, NONE, NO_NUMBER}};
        for (int time = 0; time < 4; time++) {
            x.promise(0, time);
            for (int what = 0; what < 3; what++) {
                is("time " + time + " what " + what, due[time][what], x.days(0, what));
            }
        }
        x.demand(0, 39, 4);
        is("the last day breaks, whatever the PLAN", 39, x.days(0, 1));
        x.promise(0, 0);
        is("the least on the last day", 2, x.days(0, 2));
        x.promise(0, 1);
        is("a day ahead of it: not within the days", 3, x.days(0, 2));
        x.demand(0, 38, 4);
        is("within the days", -1, x.days(0, 2));
        is("short", 1, x.days(0, 0));
        x.demand(0, 0, 999);
        is("the first day breaks", 0, x.days(0, 1));
        is("short on day 1, too", 2, x.days(0, 0));
    }

    private static void ask() {
        CHECKS.part("27: IllegalArgumentException: the tape has not so many, n below 0, above 200 (nothing changes).");
        RICH.range("n", 0, 40, Twins.ILLEGAL, (x, v) -> x.ask(v));
        NOTHING.range("n without a tape", 0, 0, Twins.ILLEGAL, (x, v) -> x.ask(v));
        for (int feeds : new int[] {10, 11, 20}) {
            new Twins(CHECKS, x -> feedBlanks(x, feeds)).range("n of " + 20 * feeds, 0, 200, Twins.ILLEGAL, (x, v) -> x.ask(v));
        }
        new Twins(CHECKS, x -> feedBlanks(x, 9)).range("n of 180", 0, 180, Twins.ILLEGAL, (x, v) -> x.ask(v));
        new Twins(CHECKS, x -> feedBlanks(x, 20)).illegal("400 of 400", x -> x.ask(400));
    }

    private static void chain() {
        CHECKS.part("28: how many STAGES (k NONE), the k-th (0 on; 0 is the STAGE). NoSuchElementException: no such STAGE, k.");
        RICH.range("stage", 0, 2, Twins.NO_SUCH, (x, v) -> x.chain(v, 0));
        RICH.range("stage", 0, 2, Twins.NO_SUCH, (x, v) -> x.chain(v, NONE));
        RICH.range("k of three", NONE, 2, Twins.NO_SUCH, (x, v) -> x.chain(2, v));
        RICH.range("k of two", NONE, 1, Twins.NO_SUCH, (x, v) -> x.chain(1, v));
        RICH.range("k of one", NONE, 0, Twins.NO_SUCH, (x, v) -> x.chain(0, v));
        RICH.noSuch("both wrong", x -> x.chain(3, 3));
        RICH.leavesAll("three", 3, x -> x.chain(2, NONE));
        RICH.leavesAll("the first", 2, x -> x.chain(2, 0));
        RICH.leavesAll("the last", 0, x -> x.chain(2, 2));
    }

    private static void frontier() {
        CHECKS.part("29: how many EVEN PROMISES (k NONE), the k-th (rising). NoSuchElementException: no such one.");
        PromisedStock x = new PromisedStock();
        Recipes.rich(x);
        int size = x.frontier(NONE);
        is("some", true, size > 1 && size < 21);
        RICH.range("k", NONE, size - 1, Twins.NO_SUCH, (y, v) -> y.frontier(v));
        for (int k = 1; k < size; k++) {
            is("rising", true, x.frontier(k) > x.frontier(k - 1));
        }
        Twins none = new Twins(CHECKS, y -> {
            Recipes.rich(y);
            y.pin(2, 119);
        });
        none.range("k of none", NONE, NONE, Twins.NO_SUCH, (y, v) -> y.frontier(v));
        none.leavesAll("none", 0, y -> y.frontier(NONE));
    }

    private static void image() {
        CHECKS.part("30: NETWORK, PINS, the PLAN at hand, DEMANDS are kept (instead of what was; ACTS aren't).");
        PromisedStock x = new PromisedStock();
        Recipes.rich(x);
        String was = Twins.seen(x, false).replaceFirst("(counts( -?\\d+){5}) \\d+", "$1 0");
        x.image();
        is("its own ACTS stay", 6, x.count(5));
        is("the tape stays", 40, x.count(6));
        is("the FAULT stays", 4, x.fault());
        x.network(40);
        is("back", true, x.back());
        is("all but ACTS", was, Twins.seen(x, false));
        is("no ACTS", NONE, x.undo());
        CHECKS.part("30: instead of what was");
        x.change(0, 1, 77);
        x.image();
        x.change(0, 1, 78);
        x.back();
        is("the latest", 77, x.stage(0, 1));
        PromisedStock empty = new PromisedStock();
        empty.image();
        Checks.tell(empty, "stage a 1 1;z 7;");
        is("a NETWORK without STAGES is kept, too", true, empty.back());
        is("stages", 0, empty.count(0));
        is("z", 165, empty.count(2));
        is("no STAGE", NONE, empty.add(0, true, 1, 1));
        new Twins(CHECKS, y -> {
            Recipes.rich(y);
            y.image();
        }).leavesAll("the same again", "done", y -> {
            y.image();
            return "done";
        });
    }

    private static void back() {
        CHECKS.part("31: All is as it was kept (no ACTS are kept then): true");
        PromisedStock x = new PromisedStock();
        Recipes.twelve(x);
        x.promise(11, 4);
        x.demand(11, 39, 1);
        x.undo();
        is("back", true, x.back());
        is("acts", 0, x.count(5));
        is("undo", NONE, x.undo());
        is("pin", 2, x.stage(4, 6));
        is("time", 0, x.planned(11, 0));
        is("demand", 0, x.day(11, 39, 0));
        is("the tape stays", 20, x.count(6));
        x.change(0, 6, 9);
        is("an ACT again", 1, x.count(5));
        is("back again", true, x.back());
        is("z", 165, x.count(2));
        is("no ACT", 0, x.count(5));
        new Twins(CHECKS, y -> {
            Recipes.rich(y);
            y.back();
        }).leavesAll("back again", true, y -> y.back());
        CHECKS.part("31: All is as it was kept, whatever came between, again and again");
        PromisedStock again = new PromisedStock();
        Recipes.rich(again);
        again.back();
        String was = Twins.seen(again, false);
        for (int round = 0; round < 2; round++) {
            changeAll(again);
            is("changed", 4, again.count(0));
            is("back", true, again.back());
            is("as it was kept", was, Twins.seen(again, false));
            is("undo", NONE, again.undo());
        }
        CHECKS.part("31: All is as it was kept: a STAGE of a greater number finds nothing");
        PromisedStock y = Checks.of("stage a 1 1;");
        y.image();
        for (int s = 1; s < 12; s++) {
            y.add(0, true, 1, 1);
            y.promise(s, 7);
            y.demand(s, 3, 7);
        }
        y.back();
        is("stages", 1, y.count(0));
        is("suppliers", 0, y.stage(0, 10));
        for (int s = 1; s < 12; s++) {
            is("a STAGE", s, y.add(0, false, 1, 1));
            is("its time", 0, y.planned(s, 0));
            is("its demand", 0, y.day(s, 3, 0));
        }
    }

    private static void changeAll(PromisedStock x) {
        for (int s = 0; s < 2; s++) {
            for (int what = 0; what < 6; what++) {
                x.change(s, what, 7 + s);
            }
            x.pin(s, 70 + s);
            x.promise(s, 80 + s);
            x.demand(s, 0, 90 + s);
            x.demand(s, 3, 90 + s);
            x.drawn(s, 17);
        }
        x.change(0, 6, 99);
        x.add(1, true, 5, 55);
        x.add(0, false, 6, 66);
        x.promise(2, 5);
        x.demand(3, 7, 5);
    }

    private static void backWithoutImage() {
        CHECKS.part("31: false: nothing was kept");
        PLAIN.leavesAll("back", false, x -> x.back());
        NOTHING.leavesAll("back", false, x -> x.back());
        new Twins(CHECKS, x -> {
            Recipes.plain(x);
            x.pin(0, 1);
            x.promise(1, 5);
            x.demand(1, 7, 5);
            x.change(0, 6, 9);
            Checks.ask(x, "x");
            Checks.feed(x, "stage q 1 1;");
        }).leavesAll("back", false, x -> x.back());
    }

    private static void fiveHundredAndTwelve() {
        CHECKS.part("An object is used for at most 512 calls after it has been made");
        PromisedStock x = new PromisedStock();
        Checks.tell(x, "stage a 2 5 demand 3 100;z 100;");
        // Three calls so far.
        for (int i = 0; i < 127; i++) {
            is("a pin", i == 0 ? NONE : (i - 1) % 3, x.pin(0, i % 3));
            is("its price", i % 3 == 0 ? 75 : i % 3 == 1 ? 50 : 0, x.least());
            is("its acts", Math.min(i + 1, 20), x.count(5));
            is("its feed", i < 20 ? 20 * (i + 1) : NONE, x.feed(i, i, i, i, i));
        }
        is("the 512th", -11, x.network(400));
    }
}
