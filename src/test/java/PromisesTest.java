/** Each promise of the document by itself: ordinary inputs, the edges that it names, wrong inputs. */
public final class PromisesTest {
    // ROOT of 1, 2, 3, .. days is 7, 10, 12, 14, 15 for both: 6.6 times the root of n, never cut.
    private static final String TWO = "stage mill 3 2;stage shop 2 10 demand 4 16 promise 0;from mill shop;";
    private static final String TWELVE = "stage a 9 1;stage b 9 1;stage c 9 1;stage d 9 1;stage e 9 1;stage f 9 1;"
        + "stage g 9 1;stage h 9 1;stage i 9 1;stage j 9 1;stage k 9 1;stage l 9 1 demand 1 1;";
    private static final int NONE = PromisedStock.NONE;
    private static final Checks CHECKS = new Checks();

    private PromisesTest() {
    }

    public static void main(String[] args) {
        newObject();
        feed();
        network();
        networkFaults();
        fault();
        count();
        letter();
        stage();
        bound();
        change();
        add();
        supply();
        pin();
        undo();
        take();
        promise();
        planned();
        plan();
        least();
        worth();
        even();
        budget();
        pinned();
        demand();
        drawn();
        day();
        days();
        askValues();
        ask();
        askFaults();
        chain();
        frontier();
        imageAndBack();
        CHECKS.end();
    }

    private static void is(String what, Object due, Object got) {
        CHECKS.is(what, due, got);
    }

    private static void noSuch(String what, Checks.Call call) {
        CHECKS.noSuch(what, call);
    }

    private static void illegal(String what, Checks.Call call) {
        CHECKS.illegal(what, call);
    }

    private static void newObject() {
        CHECKS.part("1 a new object");
        PromisedStock x = new PromisedStock();
        is("NONE", -1, PromisedStock.NONE);
        int[] due = {0, 0, 165, 0, 0, 0, 0};
        for (int what = 0; what < due.length; what++) {
            is("count " + what, due[what], x.count(what));
        }
        is("least", 0, x.least());
        is("price", 0, x.plan(0));
        is("first that doesn't hold", NONE, x.plan(1));
        is("holding", 0, x.plan(2));
        is("even", 0, x.even(20));
        is("budget", 0, x.budget(0));
        is("frontier", 1, x.frontier(NONE));
        is("undo", NONE, x.undo());
        is("back", false, x.back());
        is("fault", NONE, x.fault());
        for (int rule = 0; rule < 4; rule++) {
            is("take " + rule, 0, x.take(rule));
        }
        noSuch("a stage", () -> x.stage(0, 0));
    }

    private static void feed() {
        CHECKS.part("2 feed");
        PromisedStock x = new PromisedStock();
        int z = 'z' << 24 | ' ' << 16 | '7' << 8 | ';';
        is("one", 20, x.feed(z, 0x20202020, 0x0a0a0a0a, 0x20202020, z));
        is("its bytes, the highest first", 0, x.network(20));
        is("both lines are read", 7, x.count(2));
        for (int i = 1; i <= 20; i++) {
            is("feed " + i, 20 * i, x.feed(0x20202020, 0x20202020, 0x20202020, 0x20202020, 0x20202020));
        }
        is("no room", NONE, x.feed(1, 2, 3, 4, 5));
        is("none came", 400, x.count(6));
        is("all blanks", 0, x.network(400));
        is("room again", 20, x.feed(-1, -1, -1, -1, -1));
        is("bytes above 127", -11, x.network(20));
    }

    private static void network() {
        CHECKS.part("3 network");
        PromisedStock x = new PromisedStock();
        is("stages", 2, Checks.tell(x, TWO));
        is("the tape is empty", 0, x.count(6));
        is("no fault", NONE, x.fault());
        is("z without a line", 165, x.count(2));
        x.pin(0, 1);
        x.promise(1, 5);
        x.demand(1, 3, 9);
        x.change(0, 6, 9);
        is("nothing is told anew by a fault", -11, Checks.tell(x, "stage a 1 1;x"));
        is("the tape is empty", 0, x.count(6));
        is("stages as they were", 2, x.count(0));
        is("pins as they were", 1, x.count(4));
        is("acts as they were", 2, x.count(5));
        is("plan as it was", 5, x.planned(1, 0));
        Checks.feed(x, TWO);
        illegal("more than the tape has", () -> x.network(81));
        illegal("below 0", () -> x.network(-1));
        is("the tape stays", 80, x.count(6));
        is("again", 2, x.network(TWO.length()));
        is("no pins", 0, x.count(4));
        is("no acts", 0, x.count(5));
        is("z again", 165, x.count(2));
        is("times 0", 0, x.planned(1, 0));
        is("demand 0", 0, x.day(1, 3, 0));
        is("no bytes", 0, x.network(0));
        is("no stages", 0, x.count(0));
        Checks.feed(x, "stage a 1 1;stage b 1 1;");
        is("the first bytes", 1, x.network(12));
        is("the tape is empty", 0, x.count(6));
        is("blanks where one likes, not needed at all", 1,
            Checks.tell(x, "\n stage\nabcdef3 007outer 9demand 99 9999promise 20 ; z 1;z 400; "));
        int[] due = {3, 7, 9, 99, 9999, 20};
        for (int what = 0; what < due.length; what++) {
            is("told " + what, due[what], x.stage(0, what));
        }
        is("the last z counts", 400, x.count(2));
        is("long numbers", 1, Checks.tell(x, "stage a 0000000000000009 00000000000000000999;"));
        is("z of an older text is gone", 165, x.count(2));
        is("twelve", 12, Checks.tell(x, TWELVE));
        is("one part", 3, Checks.tell(x, "stage a 1 1;stage b 1 1;stage cdefgh 1 1;from a b;from cdefgh b;"));
        is("supplies of an older text are gone", 2, Checks.tell(x, "stage a 1 1;stage b 1 1;"));
        is("who supplies", 0, x.stage(1, 10));
        is("names of an older text are gone", 0, x.letter(x.add(0, true, 1, 1), 0));
        is("a name that begins like a word", 1, Checks.tell(x, "stage stages 1 1;"));
    }

    private static void faulty(int fault, int place, String text) {
        PromisedStock x = Checks.of(TWO);
        is("network \"" + text + "\"", -10 - fault, Checks.tell(x, text));
        is("its place", place, x.fault());
        is("stages", 2, x.count(0));
    }

    private static void networkFaults() {
        CHECKS.part("3 network, faults");
        faulty(1, 5, "stage");
        faulty(1, 9, "stage    ");
        faulty(1, 11, "stage a 1 1");
        faulty(1, 0, ";");
        faulty(1, 0, "stages a 1 1;");
        faulty(1, 0, "Stage a 1 1;");
        faulty(1, 6, "stage stage 1 1;");
        faulty(1, 6, "stage outer 1 1;");
        faulty(1, 6, "stage demand 1 1;");
        faulty(1, 6, "stage promise 1 1;");
        faulty(1, 6, "stage from 1 1;");
        faulty(1, 6, "stage z 1 1;");
        faulty(1, 6, "stage abcdefg 1 1;");
        faulty(1, 6, "stage 7 1 1;");
        faulty(1, 10, "stage a 1 b;");
        faulty(1, 12, "stage a 1 1 x;");
        faulty(1, 12, "stage a 1 1 2;");
        faulty(1, 18, "stage a 1 1 outer outer 1;");
        faulty(1, 20, "stage a 1 1 outer 1 outer 1;");
        faulty(1, 23, "stage a 1 1 demand 1 1 outer 1;");
        faulty(1, 22, "stage a 1 1 promise 1 demand 1 1;");
        faulty(1, 20, "stage a 1 1 demand 1;");
        faulty(1, 12, "stage a 1 1;;");
        faulty(1, 2, "z ;");
        faulty(1, 6, "z 400 1;");
        faulty(1, 10, "stage a 1 -1;");
        faulty(1, 5, "from z z;");
        faulty(1, 5, "from stage a;");
        faulty(1, 5, "from abcdefg a;");
        faulty(1, 19, "stage a 1 1;from a ;");
        faulty(1, 19, "stage a 1 1;from a abcdefg;");
        faulty(2, 8, "stage a 10 1;");
        faulty(2, 10, "stage a 1 1000;");
        faulty(2, 10, "stage a 1 99999999999999999999999;");
        faulty(2, 10, "stage a 1 4294967297;");
        faulty(2, 18, "stage a 1 1 outer 10;");
        faulty(2, 19, "stage a 1 1 demand 100 1;");
        faulty(2, 21, "stage a 1 1 demand 1 10000;");
        faulty(2, 20, "stage a 1 1 promise 21;");
        faulty(2, 2, "z 401;");
        faulty(3, 18, "stage a 1 1;stage a 1 1;");
        faulty(3, 23, "stage abcdef 1 1;stage abcdef 1 1;");
        faulty(3, 5, "from a b;");
        faulty(3, 19, "stage a 1 1;from a b;stage b 1 1;");
        faulty(3, 17, "stage a 1 1;from b a;");
        faulty(4, 19, "stage a 1 1;from a a;");
        faulty(4, 40, "stage a 1 1;stage b 1 1;from a b;from b a;");
        faulty(4, 61, "stage a 1 1;stage b 1 1;stage c 1 1;from a b;from c b;from a c;");
        faulty(5, TWELVE.length(), TWELVE + "stage m 1 1;");
        faulty(5, TWELVE.length(), TWELVE + "stage");
        faulty(1, TWELVE.length() - 1, TWELVE.substring(0, TWELVE.length() - 1) + "stage");
        PromisedStock x = new PromisedStock();
        Checks.feed(x, "stage abcdef 1 1;stage bcdefg 1 1;");
        is("two of six letters", 2, x.network(34));
        x.even(0);
        is("one", 1, Checks.tell(x, "stage a 1 1;"));
        is("a name that another one begins with is another one", 2, Checks.tell(x, "stage ab 1 1;stage a 1 1;"));
        is("no letters of an older name stay", 0, x.letter(1, 1));
    }

    private static void fault() {
        CHECKS.part("4 fault");
        PromisedStock x = new PromisedStock();
        Checks.tell(x, "stage a 10 1;");
        is("of network", 8, x.fault());
        illegal("network", () -> x.network(1));
        illegal("ask", () -> x.ask(201));
        is("stays", 8, x.fault());
        Checks.ask(x, "many");
        is("of ask", 4, x.fault());
        Checks.tell(x, TWO);
        is("none", NONE, x.fault());
        Checks.ask(x, "x");
        is("of ask again", 0, x.fault());
        Checks.ask(x, "most 1");
        is("none again", NONE, x.fault());
    }

    private static void count() {
        CHECKS.part("5 count");
        PromisedStock x = Checks.of("stage a 1 1;stage b 1 1;stage c 1 1;stage d 1 1;from c a;from c b;z 200;");
        x.feed(0, 0, 0, 0, 0);
        x.pin(1, 4);
        x.pin(3, 0);
        x.change(1, 0, 2);
        int[] due = {4, 2, 200, 2, 2, 3, 20};
        for (int what = 0; what < due.length; what++) {
            is("count " + what, due[what], x.count(what));
        }
        for (int i = 0; i < 30; i++) {
            x.change(1, 0, 2);
        }
        is("acts that are kept", 20, x.count(5));
        noSuch("7", () -> x.count(7));
        noSuch("-1", () -> x.count(-1));
    }

    private static void letter() {
        CHECKS.part("6 letter");
        PromisedStock x = Checks.of("stage abyzmn 1 1;stage q 1 1;");
        int[] due = {1, 2, 25, 26, 13, 14};
        for (int k = 0; k < 6; k++) {
            is("letter " + k, due[k], x.letter(0, k));
            is("letter " + k + " of q", k == 0 ? 17 : 0, x.letter(1, k));
        }
        noSuch("k 6", () -> x.letter(0, 6));
        noSuch("k -1", () -> x.letter(0, -1));
        noSuch("stage 2", () -> x.letter(2, 0));
        noSuch("stage -1", () -> x.letter(-1, 0));
    }

    private static void stage() {
        CHECKS.part("7 stage");
        PromisedStock x = Checks.of("stage a 2 9 outer 1 demand 1 10;stage b 3 8 outer 4 promise 7;"
            + "stage c 1 7 demand 20 300;stage d 5 6 outer 9 demand 40 5000;from a c;from b c;from c d;");
        x.pin(2, 11);
        int[][] due = {{2, 9, 1, 1, 10, NONE, NONE, 61, 5310, 3, 0, 4}, {3, 8, 4, 0, 0, 7, NONE, 60, 5300, 7, 0, 4},
            {1, 7, 0, 20, 300, NONE, 11, 60, 5300, 8, 3, 8}, {5, 6, 9, 40, 5000, NONE, NONE, 40, 5000, 14, 4, 0}};
        for (int s = 0; s < 4; s++) {
            for (int what = 0; what < 12; what++) {
                is("stage " + s + " " + what, due[s][what], x.stage(s, what));
            }
        }
        noSuch("what 12", () -> x.stage(0, 12));
        noSuch("what -1", () -> x.stage(0, -1));
        noSuch("stage 4", () -> x.stage(4, 0));
        noSuch("stage -1", () -> x.stage(-1, 0));
    }

    private static void bound() {
        CHECKS.part("8 bound");
        PromisedStock x = Checks.of(TWO);
        int[] roots = {0, 7, 10, 12, 14, 15};
        for (int n = 0; n < roots.length; n++) {
            is("root by " + n, roots[n], x.bound(0, 0, n));
            is("bound of " + n, roots[n] + 4 * n, x.bound(1, 1, n));
        }
        x.change(0, 6, 100);
        is("a whole root isn't raised", 4, x.bound(0, 0, 1));
        is("a whole root isn't raised", 8, x.bound(0, 0, 4));
        x.change(1, 4, 17);
        is("a bit more is", 5, x.bound(0, 0, 1));
        x.change(0, 6, 0);
        is("z 0", 0, x.bound(0, 0, 999));
        is("z 0", 3996, x.bound(0, 1, 999));
        x.change(0, 6, 1);
        x.change(1, 4, 1);
        is("a hundredth", 1, x.bound(0, 0, 1));
        PromisedStock most = Checks.of("stage a 0 0 demand 99 9999;z 400;");
        for (int i = 0; i < 11; i++) {
            most.change(most.add(0, false, 0, 0), 4, 9999);
        }
        // 400 times 400 times 119988 times 999 is 19178881920000; 4379370 squared is less, 4379400 squared isn't.
        is("the greatest", 43794, most.bound(0, 0, 999));
        is("the greatest", 43794 + 999 * 99, most.bound(0, 1, 999));
        noSuch("how 2", () -> x.bound(0, 2, 0));
        noSuch("how -1", () -> x.bound(0, -1, 1000));
        noSuch("stage 2", () -> x.bound(2, 0, -1));
        noSuch("stage -1", () -> x.bound(-1, 0, 0));
        illegal("n 1000", () -> x.bound(0, 0, 1000));
        illegal("n -1", () -> x.bound(0, 1, -1));
    }

    private static void change() {
        CHECKS.part("9 change");
        PromisedStock x = Checks.of(TWO);
        int[] first = {2, 10, 0, 4, 16, 0, 165};
        int[] most = {9, 999, 9, 99, 9999, 20, 400};
        for (int what = 0; what < 7; what++) {
            int w = what;
            is("what it was " + w, first[w], x.change(1, w, most[w]));
            is("the most " + w, most[w], x.change(1, w, 0));
            is("the least " + w, 0, x.change(1, w, first[w]));
            illegal("more " + w, () -> x.change(1, w, most[w] + 1));
            illegal("less " + w, () -> x.change(1, w, w == 5 ? -2 : -1));
            is("stays", first[w], w == 6 ? x.count(2) : x.stage(1, w));
        }
        is("acts", 20, x.count(5));
        is("no promise", 0, x.change(1, 5, NONE));
        is("it was none", NONE, x.change(1, 5, 3));
        is("z of any stage", 165, x.change(-77, 6, 1));
        is("z", 1, x.change(99, 6, 2));
        noSuch("stage 2", () -> x.change(2, 0, 77));
        noSuch("stage -1", () -> x.change(-1, 5, 0));
        noSuch("what 7", () -> x.change(0, 7, 0));
        noSuch("what -1", () -> x.change(0, -1, 0));
        x.change(1, 3, 50);
        x.change(1, 4, 500);
        x.change(0, 2, 6);
        is("flow follows", 50, x.stage(0, 7));
        is("width follows", 500, x.stage(0, 8));
        is("longest follows", 11, x.stage(1, 9));
    }

    private static void add() {
        CHECKS.part("10 add");
        PromisedStock x = Checks.of(TWO);
        is("behind", 2, x.add(1, false, 9, 999));
        is("ahead", 3, x.add(0, true, 0, 0));
        int[][] due = {{9, 999, 0, 0, 0, NONE, NONE, 0, 0, 14, 2, 0}, {0, 0, 0, 0, 0, NONE, NONE, 4, 16, 0, 0, 1}};
        for (int s = 2; s < 4; s++) {
            for (int what = 0; what < 12; what++) {
                is("stage " + s + " " + what, due[s - 2][what], x.stage(s, what));
            }
            for (int k = 0; k < 6; k++) {
                is("letter", 0, x.letter(s, k));
            }
            is("time", 0, x.planned(s, 0));
        }
        is("acts", 2, x.count(5));
        is("no such stage", NONE, x.add(4, false, 1, 1));
        is("no such stage", NONE, x.add(-1, true, 1, 1));
        is("days", NONE, x.add(0, true, 10, 1));
        is("days", NONE, x.add(0, true, -1, 1));
        is("cost", NONE, x.add(0, true, 1, 1000));
        is("cost", NONE, x.add(0, true, 1, -1));
        is("nothing changed", 4, x.count(0));
        is("nothing changed", 2, x.count(5));
        for (int s = 4; s < 12; s++) {
            is("one more", s, x.add(s - 1, false, 1, 1));
        }
        is("there are 12", NONE, x.add(0, false, 1, 1));
        is("one part", 1, x.count(3));
        is("supplies", 11, x.count(1));
        is("without stages", NONE, new PromisedStock().add(0, true, 1, 1));
    }

    private static void supply() {
        CHECKS.part("11 supply");
        PromisedStock x = Checks.of("stage a 1 1;stage b 1 1;stage c 1 1;");
        is("one", 1, x.supply(2, 0));
        is("who supplies", 4, x.stage(0, 10));
        is("customers", 1, x.stage(2, 11));
        is("parts", 2, x.count(3));
        is("two", 2, x.supply(2, 1));
        is("in one part", NONE, x.supply(0, 1));
        is("there already", NONE, x.supply(2, 1));
        is("itself", NONE, x.supply(1, 1));
        is("no such", NONE, x.supply(3, 1));
        is("no such", NONE, x.supply(0, -1));
        is("supplies", 2, x.count(1));
        is("acts", 2, x.count(5));
    }

    private static void pin() {
        CHECKS.part("12 pin");
        PromisedStock x = Checks.of(TWO);
        is("none yet", NONE, x.pin(0, 0));
        is("it was 0", 0, x.pin(0, 119));
        is("it was 119", 119, x.pin(0, NONE));
        is("taken", NONE, x.pin(0, NONE));
        is("each was an act", 4, x.count(5));
        x.pin(1, 7);
        is("what it is", 7, x.stage(1, 6));
        noSuch("stage 2", () -> x.pin(2, 200));
        noSuch("stage -1", () -> x.pin(-1, 0));
        illegal("120", () -> x.pin(0, 120));
        illegal("-2", () -> x.pin(0, -2));
        is("acts", 5, x.count(5));
    }

    private static void undo() {
        CHECKS.part("13 undo");
        PromisedStock x = Checks.of(TWO + "stage c 1 1 demand 1 1;");
        int[] first = {3, 2, 0, 0, 0, NONE, NONE};
        for (int what = 0; what < 6; what++) {
            x.change(0, what, 5);
        }
        x.pin(0, 5);
        x.change(0, 6, 5);
        x.supply(1, 2);
        is("longest", 5 + 5 + 2 + 1, x.stage(2, 9));
        int added = x.add(2, true, 4, 4);
        x.promise(added, 9);
        x.demand(added, 3, 30);
        x.promise(2, 8);
        x.demand(2, 3, 20);
        is("the stage", 9, x.undo());
        is("stages", 3, x.count(0));
        noSuch("it isn't there", () -> x.stage(added, 0));
        is("its supply isn't either", 2, x.stage(2, 10));
        is("the plan stays", 8, x.planned(2, 0));
        is("demand stays", 20, x.day(2, 3, 0));
        is("its demand is gone", 20, x.day(0, 3, 1));
        is("the supply", 8, x.undo());
        is("the supply isn't there", 0, x.stage(2, 10));
        is("nor the customer", 0, x.stage(1, 11));
        is("nor its flow", 4 + 5, x.stage(0, 7));
        is("z", 7, x.undo());
        is("z", 165, x.count(2));
        is("the pin", 6, x.undo());
        for (int what = 6; what >= 0; what--) {
            is("what was told", first[what], x.stage(0, what));
            if (what > 0) {
                is("still " + (what - 1), what - 1, x.undo());
            }
        }
        is("none", NONE, x.undo());
        is("the plan stays", 8, x.planned(2, 0));
        int again = x.add(1, false, 1, 1);
        is("its time is 0", 0, x.planned(again, 0));
        is("its demand is 0", 0, x.day(again, 3, 0));
        x.demand(again, 0, 9);
        x.undo();
        is("another one", again, x.add(0, true, 1, 1));
        is("who supplied the one that is gone", 0, x.stage(again, 10));
        is("what hangs on it", 1, x.stage(again, 11));
        is("its demand is 0", 0, x.day(again, 0, 0));
        for (int i = 0; i < 25; i++) {
            x.change(0, 1, 100 + i);
        }
        for (int i = 19; i >= 0; i--) {
            is("of the latest 20", i, x.undo());
        }
        is("no more", NONE, x.undo());
        is("the oldest five stay", 104, x.stage(0, 1));
    }

    private static void take() {
        CHECKS.part("14 take");
        PromisedStock x = Checks.of(TWO);
        is("lazy", 15 * 10, x.take(1));
        is("lazy: wait and days", 3, x.planned(0, 0));
        is("lazy: the promise is less", 0, x.planned(1, 0));
        is("half", 10 * 2 + 12 * 10, x.take(3));
        is("half, cut", 1, x.planned(0, 0));
        is("best", 124, x.take(2));
        is("best", 0, x.planned(0, 0));
        x.promise(0, 9);
        is("zero", 124, x.take(0));
        is("zero", 0, x.planned(0, 0));
        x.pin(0, 2);
        is("zero doesn't hold", -2, x.take(0));
        is("but is taken", 0, x.planned(0, 0));
        is("lazy: the pin is less", 7 * 2 + 14 * 10, x.take(1));
        is("half: the pin", 7 * 2 + 14 * 10, x.take(3));
        is("half: the pin", 2, x.planned(0, 0));
        x.pin(0, 7);
        is("lazy: the pin is more", -2, x.take(1));
        is("lazy: the pin is more", 3, x.planned(0, 0));
        is("half: the pin all the same", -2, x.take(3));
        is("half: the pin all the same", 7, x.planned(0, 0));
        is("no best", NONE, x.take(2));
        is("nothing changed", 7, x.planned(0, 0));
        is("no such rule", NONE, x.take(4));
        is("no such rule", NONE, x.take(-1));
        is("nothing changed", 7, x.planned(0, 0));
        PromisedStock chain = Checks.of("stage c 1 1;stage b 2 1 outer 6;stage a 3 1;from a b;from b c;");
        chain.take(1);
        is("suppliers ahead", 9, chain.planned(0, 0));
        is("outer", 8, chain.planned(1, 0));
        chain.take(0);
        chain.take(3);
        is("half, whatever the plan was", 4, chain.planned(0, 0));
        is("half", 4, chain.planned(1, 0));
        is("half", 1, chain.planned(2, 0));
        bestOfLike();
    }

    private static void bestOfLike() {
        PromisedStock x = Checks.of("stage a 3 0 demand 1 1;stage b 2 0;stage c 4 7;from b c;");
        x.promise(0, 3);
        x.promise(1, 1);
        is("all like ones", 0, x.take(2));
        for (int s = 0; s < 3; s++) {
            is("the least times", 0, x.planned(s, 0));
        }
        // Three days must be held, of ROOT 18 and like COST: by b (b at 0, a at 3), or by a (both at 3).
        PromisedStock y = Checks.of("stage b 3 5;stage a 3 5 demand 0 100 promise 3;z 100;from b a;");
        is("like ones", 18 * 5, y.take(2));
        is("b", 0, y.planned(0, 0));
        is("a", 3, y.planned(1, 0));
        // The same, the STAGES numbered the other way: STAGE 0 has 3 in both.
        PromisedStock two = Checks.of("stage a 3 5 demand 0 100 promise 3;stage b 3 5;z 100;from b a;");
        is("like ones", 18 * 5, two.take(2));
        is("a", 3, two.planned(0, 0));
        is("b", 0, two.planned(1, 0));
    }

    private static void promise() {
        CHECKS.part("15 promise");
        PromisedStock x = Checks.of(TWO);
        is("it was 0", 0, x.promise(1, 119));
        is("it was 119", 119, x.promise(1, 0));
        is("no act", 0, x.count(5));
        noSuch("stage 2", () -> x.promise(2, 120));
        noSuch("stage -1", () -> x.promise(-1, 0));
        illegal("120", () -> x.promise(0, 120));
        illegal("-1", () -> x.promise(0, -1));
    }

    private static void planned() {
        CHECKS.part("16 planned");
        PromisedStock x = Checks.of("stage mill 3 2;stage shop 2 10 outer 4 demand 4 16;from mill shop;");
        x.promise(0, 2);
        x.promise(1, 1);
        int[][] due = {{2, 0, 1, 7, 11, 14}, {1, 4, 5, 15, 35, 150}};
        for (int s = 0; s < 2; s++) {
            for (int what = 0; what < 6; what++) {
                is("planned " + s + " " + what, due[s][what], x.planned(s, what));
            }
        }
        x.promise(0, 9);
        int[][] below = {{9, 0, -6, NONE, NONE, NONE}, {1, 9, 10, 21, 61, 210}};
        for (int s = 0; s < 2; s++) {
            for (int what = 0; what < 6; what++) {
                is("net below 0: planned " + s + " " + what, below[s][what], x.planned(s, what));
            }
        }
        x.promise(0, 3);
        is("net 0", 0, x.planned(0, 2));
        is("held", 0, x.planned(0, 3));
        is("base", 0, x.planned(0, 4));
        noSuch("what 6", () -> x.planned(0, 6));
        noSuch("what -1", () -> x.planned(0, -1));
        noSuch("stage 2", () -> x.planned(2, 0));
        noSuch("stage -1", () -> x.planned(-1, 0));
    }

    private static void plan() {
        CHECKS.part("17 plan");
        PromisedStock x = Checks.of(TWO);
        is("price", 124, x.plan(0));
        is("holds", NONE, x.plan(1));
        is("holding", 3, x.plan(2));
        x.promise(0, 3);
        is("price", 150, x.plan(0));
        is("holding", 2, x.plan(2));
        x.promise(0, 4);
        is("net below 0", NONE, x.plan(0));
        is("net below 0", 0, x.plan(1));
        is("it doesn't hold anything", 2, x.plan(2));
        x.promise(0, 0);
        x.promise(1, 1);
        is("above the promise", NONE, x.plan(0));
        is("above the promise", 1, x.plan(1));
        x.change(1, 5, 1);
        is("as promised", 2 * 12 + 10 * 7, x.plan(0));
        x.pin(1, 0);
        is("not as pinned", 1, x.plan(1));
        x.pin(1, 1);
        x.pin(0, 3);
        is("not as pinned", 0, x.plan(1));
        x.promise(0, 3);
        is("as pinned", NONE, x.plan(1));
        PromisedStock sure = Checks.of("stage a 1 1 demand 9 0;stage b 1 1 demand 9 1;z 100;");
        is("no spread, nothing held; one held", 2, sure.plan(2));
        noSuch("3", () -> x.plan(3));
        noSuch("-1", () -> x.plan(-1));
    }

    private static void least() {
        CHECKS.part("18 least");
        PromisedStock x = Checks.of(TWO);
        is("least", 124, x.least());
        x.change(0, 1, 100);
        is("all at the shop", 150, x.least());
        x.pin(0, 1);
        is("with a pin", 10 * 100 + 12 * 10, x.least());
        x.pin(0, 4);
        is("a pin that can't be kept", NONE, x.least());
        x.pin(0, NONE);
        x.pin(1, 1);
        is("a pin above the promise", NONE, x.least());
        PromisedStock y = Checks.of(TWELVE);
        for (int s = 1; s < 12; s++) {
            y.supply(s - 1, s);
            y.change(s, 5, NONE);
        }
        is("without a promise", 0, y.least());
        y.change(11, 5, 0);
        // 108 days, spread 1: ROOT of n is 1.65 times the root of n; one STAGE with all of them is the cheapest.
        is("108 days in one place", 18, y.least());
        is("taken", 18, y.take(2));
        for (int s = 0; s < 11; s++) {
            is("time " + s, 9 * (s + 1), y.planned(s, 0));
        }
        is("the wait must be just that", NONE, Checks.of("stage a 1 1;stage b 1 1;from a b;").pinned(1, 3));
    }

    private static void worth() {
        CHECKS.part("19 worth");
        PromisedStock x = Checks.of(TWO);
        is("a day of the mill: 12 or 10 held", 2 * 2, x.worth(0, 0));
        is("a day of the shop: 10 or 7 held", 3 * 10, x.worth(1, 0));
        is("a day of the promise", 3 * 10, x.worth(1, 1));
        is("no promise", 0, x.worth(0, 1));
        is("no pin", 0, x.worth(0, 2));
        x.pin(0, 2);
        is("a pin", 154 - 124, x.worth(0, 2));
        x.change(1, 5, 20);
        is("a promise of 20", 0, x.worth(1, 1));
        x.change(1, 0, 0);
        is("0 days", 0, x.worth(1, 0));
        x.pin(0, 4);
        is("a pin without a plan", -1000000, x.worth(0, 2));
        is("a day without a plan", -1000000, x.worth(0, 0));
        is("a promise without a plan", -1000000, x.worth(1, 1));
        is("0 days without a plan", 0, x.worth(1, 0));
        is("no promise without a plan", 0, x.worth(0, 1));
        is("no pin without a plan", 0, x.worth(1, 2));
        x.pin(0, 3);
        is("only the other plan isn't there", -1000000, x.worth(0, 0));
        x.change(0, 5, 2);
        is("only the plan isn't there", -1000000, x.worth(0, 1));
        is("nothing changed", 2, x.stage(0, 5));
        is("nothing changed", 3, x.stage(0, 6));
        PromisedStock far = Checks.of("stage a 9 1 outer 9;stage b 9 1 demand 0 100 promise 20;from a b;");
        // 27 days less the promise of 20 or 21, held by one: 44 and 41.
        is("a promise of 21", 44 - 41, far.worth(1, 1));
        noSuch("what 3", () -> x.worth(0, 3));
        noSuch("what -1", () -> x.worth(0, -1));
        noSuch("stage 2", () -> x.worth(2, 0));
        noSuch("stage -1", () -> x.worth(-1, 0));
    }

    private static void even() {
        CHECKS.part("20 even");
        PromisedStock x = Checks.of(TWO);
        int[] due = {124, 94, 24, 20, 14, 0, 0};
        for (int p = 0; p < due.length; p++) {
            is("even " + p, due[p], x.even(p));
        }
        is("even 20", 0, x.even(20));
        x.change(0, 5, 0);
        is("a supplier's promise doesn't count", 0, x.even(5));
        is("it stays", 0, x.stage(0, 5));
        is("it stays", 0, x.stage(1, 5));
        x.pin(1, 1);
        is("a pin above it", NONE, x.even(0));
        is("a pin", 94, x.even(1));
        is("a pin", 94, x.even(20));
        x.pin(1, NONE);
        is("without it", 14, x.even(4));
        x.change(0, 1, 4);
        is("another cost", 28, x.even(4));
        x.change(0, 6, 0);
        is("another z", 0, x.even(4));
        x.undo();
        is("undone", 28, x.even(4));
        x.add(1, false, 1, 1);
        is("all that have no customers", 0, x.even(6));
        illegal("21", () -> x.even(21));
        illegal("-1", () -> x.even(-1));
    }

    private static void budget() {
        CHECKS.part("21 budget");
        PromisedStock x = Checks.of(TWO);
        int[][] due = {{Integer.MAX_VALUE, 0}, {124, 0}, {123, 1}, {94, 1}, {93, 2}, {24, 2}, {23, 3}, {14, 4}, {13, 5},
            {0, 5}, {-1, NONE}, {Integer.MIN_VALUE, NONE}};
        for (int[] d : due) {
            is("budget " + d[0], d[1], x.budget(d[0]));
        }
        x.pin(1, 4);
        is("a pin", 4, x.budget(9999));
        is("a pin", NONE, x.budget(13));
        x.pin(1, 21);
        is("no plan at all", NONE, x.budget(9999));
        PromisedStock far = Checks.of("stage a 9 1 outer 9;stage b 9 1 demand 0 100;from a b;");
        is("20 isn't enough", NONE, far.budget(43));
        is("20", 20, far.budget(44));
    }

    private static void pinned() {
        CHECKS.part("22 pinned");
        PromisedStock x = Checks.of(TWO);
        int[] due = {124, 140, 154, 150, NONE};
        for (int t = 0; t < due.length; t++) {
            is("pinned " + t, due[t], x.pinned(0, t));
        }
        is("above the promise", NONE, x.pinned(1, 1));
        is("119", NONE, x.pinned(1, 119));
        is("no pin is set", 0, x.count(4));
        x.pin(0, 3);
        is("instead of the pin", 124, x.pinned(0, 0));
        is("with other pins", 150, x.pinned(1, 0));
        is("the pin stays", 3, x.stage(0, 6));
        noSuch("stage 2", () -> x.pinned(2, 120));
        noSuch("stage -1", () -> x.pinned(-1, 0));
        illegal("120", () -> x.pinned(0, 120));
        illegal("-1", () -> x.pinned(0, -1));
    }

    private static void demand() {
        CHECKS.part("23 demand");
        PromisedStock x = Checks.of(TWO);
        is("it was 0", 0, x.demand(1, 39, 999));
        is("it was 999", 999, x.demand(1, 39, 0));
        x.demand(1, 0, 8);
        is("what it is", 8, x.day(1, 0, 0));
        is("of that stage", 0, x.day(0, 0, 0));
        is("on that day", 0, x.day(1, 1, 0));
        is("no act", 0, x.count(5));
        noSuch("stage 2", () -> x.demand(2, 0, 1000));
        noSuch("stage -1", () -> x.demand(-1, 0, 0));
        noSuch("day 40", () -> x.demand(0, 40, -1));
        noSuch("day -1", () -> x.demand(0, -1, 0));
        illegal("1000", () -> x.demand(0, 0, 1000));
        illegal("-1", () -> x.demand(0, 0, -1));
    }

    private static void drawn() {
        CHECKS.part("24 drawn");
        PromisedStock x = Checks.of("stage a 1 1 demand 99 0;stage b 1 1;");
        for (int seed : new int[] {0, 7, -1, Integer.MIN_VALUE, 123456789}) {
            int all = 0;
            long state = seed;
            int[] due = new int[40];
            for (int day = 0; day < 40; day++) {
                state = state * 1103515245L + 12345 & 0xffffffffL;
                due[day] = (int) ((state / 65536 % 32768) % 199);
                all += due[day];
            }
            is("together", all, x.drawn(0, seed));
            for (int day = 0; day < 40; day++) {
                is("day " + day, due[day], x.day(0, day, 0));
            }
        }
        x.demand(1, 5, 5);
        is("mean 0", 0, x.drawn(1, 3));
        is("mean 0", 0, x.day(1, 5, 0));
        noSuch("stage 2", () -> x.drawn(2, 0));
        noSuch("stage -1", () -> x.drawn(-1, 0));
    }

    private static void day() {
        CHECKS.part("25 day");
        PromisedStock x = Checks.of(TWO + "stage kiosk 1 1;from mill kiosk;");
        x.demand(0, 5, 1);
        x.demand(1, 5, 20);
        x.demand(2, 5, 300);
        x.demand(1, 7, 9);
        is("demand", 20, x.day(1, 5, 0));
        is("called", 321, x.day(0, 5, 1));
        is("called", 20, x.day(1, 5, 1));
        x.promise(0, 2);
        x.promise(1, 1);
        // The shop: WAIT 2, NET 3, BASE 24; days 3 to 5 are those that end a day ahead of day 6.
        int[] due = {24, 24, 24, 24, 24, 24, 4, 4, -5, 15, 15, 24};
        for (int day = 0; day < due.length; day++) {
            is("on hand " + day, due[day], x.day(1, day, 2));
        }
        // Bounds of 1, 2, .. days: 11, 18, 24, 30.
        int[] breaks = {0, 0, 0, 0, 0, 2, 2, 3, 0};
        for (int day = 0; day < breaks.length; day++) {
            is("breaks " + day, breaks[day], x.day(1, day, 3));
        }
        x.promise(1, 4);
        is("net 0", 0, x.day(1, 8, 2));
        x.promise(1, 5);
        is("net below 0", -1000000, x.day(1, 0, 2));
        is("all else is there", 3, x.day(1, 7, 3));
        x.promise(1, 0);
        x.promise(0, 119);
        is("all days from 0 on", x.planned(1, 4) - 29, x.day(1, 39, 2));
        x.promise(1, 100);
        is("days below 0", x.planned(1, 4), x.day(1, 39, 2));
        x.demand(1, 39, 999);
        is("the most days", 40, x.day(1, 39, 3));
        noSuch("stage 3", () -> x.day(3, 0, 0));
        noSuch("stage -1", () -> x.day(-1, 0, 0));
        noSuch("day 40", () -> x.day(0, 40, 0));
        noSuch("day -1", () -> x.day(0, -1, 0));
        noSuch("what 4", () -> x.day(0, 0, 4));
        noSuch("what -1", () -> x.day(0, 0, -1));
    }

    private static void days() {
        CHECKS.part("26 days");
        PromisedStock x = Checks.of(TWO);
        is("no breaks", NONE, x.days(1, 1));
        is("never short", 0, x.days(1, 0));
        is("least on hand", 18, x.days(1, 2));
        x.demand(1, 6, 11);
        is("the bound itself", NONE, x.days(1, 1));
        x.demand(1, 7, 8);
        is("a day more than the bound of two", 7, x.days(1, 1));
        is("least on hand", -1, x.days(1, 2));
        is("short", 1, x.days(1, 0));
        x.demand(1, 0, 999);
        is("short", 3, x.days(1, 0));
        is("least on hand", 18 - 999, x.days(1, 2));
        is("the first day", 0, x.days(1, 1));
        is("the mill is called, too", 18 + 6 - 999, x.days(0, 2));
        x.promise(1, 3);
        is("net below 0", NONE, x.days(1, 0));
        is("net below 0", 0, x.days(1, 1));
        is("net below 0", -1000000, x.days(1, 2));
        x.promise(1, 2);
        is("net 0", 0, x.days(1, 0));
        is("net 0", 0, x.days(1, 2));
        noSuch("stage 2", () -> x.days(2, 0));
        noSuch("stage -1", () -> x.days(-1, 0));
        noSuch("what 3", () -> x.days(0, 3));
        noSuch("what -1", () -> x.days(0, -1));
    }

    private static void asked(PromisedStock x, int due, String text) {
        is("\"" + text + "\"", due, Checks.ask(x, text));
        is("no fault of \"" + text + "\"", NONE, x.fault());
        is("the tape is empty", 0, x.count(6));
    }

    private static PromisedStock four() {
        PromisedStock x = Checks.of("stage a 2 9 outer 1 demand 1 10;stage b 3 8 outer 4 promise 7;"
            + "stage c 1 7 demand 20 300;stage d 5 6 outer 9 demand 40 5000;from a c;from b c;from c d;");
        x.pin(2, 5);
        x.promise(0, 2);
        x.promise(1, 9);
        x.promise(3, 1);
        return x;
    }

    private static void askValues() {
        CHECKS.part("27 ask, values");
        String[] values = {"number", "days", "cost", "outer", "mean", "spread", "promise", "pin", "flow", "width",
            "longest", "suppliers", "customers", "time", "wait", "net", "held", "base", "price"};
        for (int s = 0; s < 4; s++) {
            PromisedStock x = four();
            for (int v = 0; v < values.length; v++) {
                int due = v == 0 ? s : v < 8 ? x.stage(s, v - 1) : v < 11 ? x.stage(s, v - 1)
                    : v < 13 ? Integer.bitCount(x.stage(s, v - 1)) : x.planned(s, v - 13);
                // NUMBERS are never below 0, but what is asked may be -1, or a NET of -5.
                asked(x, s, "first number = " + s + " and " + values[v] + " + 5 = " + (due + 5));
            }
        }
    }

    private static void ask() {
        CHECKS.part("27 ask");
        PromisedStock x = four();
        asked(x, 6, "total number");
        asked(x, 5, "most days");
        asked(x, 1, "least days");
        asked(x, 2, "many days > 2");
        asked(x, 1, "first days > 2");
        asked(x, NONE, "first days > 5");
        asked(x, 0, "many days > 5");
        asked(x, 4, "many 1 < 2");
        asked(x, 4, "many 2 = 2");
        asked(x, 0, "many 2 > 2");
        asked(x, 0, "many 2 < 2");
        asked(x, 0, "many 2 < 1");
        asked(x, 0, "many 1 = 2");
        asked(x, 4, "many 3 > 2");
        asked(x, -1, "most 0-number-1");
        asked(x, -4, "least 0-number-1");
        asked(x, 9, "most cost");
        asked(x, 4, "most number+1");
        asked(x, 1, "least number+1");
        asked(x, 7 * 4, "total 1+2*3");
        asked(x, 9 * 4, "total (1+2)*3");
        asked(x, -4 * 4, "total 1-2-3");
        asked(x, 2 * 4, "total 1-(2-3)");
        asked(x, 4, "many 1=2 and 1=2 or 1=1");
        asked(x, 4, "many 1=1 or 1=1 and 1=2");
        asked(x, 0, "many {1=1 or 1=1} and 1=2");
        asked(x, 0, "many not 1=1 and 1=2");
        asked(x, 4, "many not {1=1 and 1=2}");
        asked(x, 4, "many not not 1=1");
        asked(x, 4, "many not 1=2 or 1=1");
        asked(x, 9999 * 4, "total 0000000000000000000009999");
        asked(x, 4 * (9999 * 9999 * 9999), "total 9999*9999*9999");
        asked(x, -2147483648, "most 1024*1024*1024*2");
        asked(x, 4, "\nmany\n1\n<\n2\n");
        asked(x, 4, "many 1<2and 1<2or{1<2}");
        asked(x, 4, "many not{not{not{1=2}}}and not{not{not{1=2}}}");
        asked(x, 4, "many not not not not not not 1=1 and not not not not not not 1=1");
        asked(x, 6 * 4, "total ((((((1))))))+((((((5))))))");
        asked(x, 4, "many not{not{{(1)=1}}}");
        PromisedStock none = new PromisedStock();
        asked(none, 0, "many 1=1");
        asked(none, NONE, "first 1=1");
        asked(none, 0, "total 5");
        asked(none, 0, "most 5");
        asked(none, 0, "least 5");
        askTape(four());
    }

    private static void askTape(PromisedStock x) {
        Checks.feed(x, "total 1x");
        is("the first bytes", 4, x.ask(7));
        is("the rest is gone", 0, x.count(6));
        for (int i = 0; i < 11; i++) {
            x.feed(0x20202020, 0x20202020, 0x20202020, 0x20202020, 0x20202020);
        }
        illegal("201", () -> x.ask(201));
        is("the tape stays", 220, x.count(6));
        is("200", -1000000001, x.ask(200));
        is("its place", 200, x.fault());
        x.feed(0, 0, 0, 0, 0);
        illegal("21 of 20", () -> x.ask(21));
        illegal("-1", () -> x.ask(-1));
        is("the tape stays", 20, x.count(6));
        is("0", -1000000001, x.ask(0));
        is("its place", 0, x.fault());
    }

    private static void asks(int fault, int place, String text) {
        PromisedStock x = Checks.of(TWO);
        is("\"" + text + "\"", -1000000000 - fault, Checks.ask(x, text));
        is("place of \"" + text + "\"", place, x.fault());
        PromisedStock none = new PromisedStock();
        is("without stages \"" + text + "\"", -1000000000 - fault, Checks.ask(none, text));
        is("place of \"" + text + "\"", place, none.fault());
    }

    private static void askFaults() {
        CHECKS.part("27 ask, faults");
        asks(1, 0, "");
        asks(1, 2, "  ");
        asks(1, 0, "all 1=1");
        asks(1, 0, "1=1");
        asks(1, 4, "many");
        asks(1, 6, "many 1");
        asks(1, 7, "many 1=");
        asks(1, 7, "total 1=1");
        asks(1, 8, "many 1=1=1");
        asks(1, 9, "many 1=1 1=1");
        asks(1, 8, "total 1 2");
        asks(1, 8, "total 1+");
        asks(1, 8, "total 1+*2");
        asks(1, 6, "total -1");
        asks(1, 6, "total least");
        asks(1, 6, "total many");
        asks(1, 6, "total names");
        asks(1, 6, "total day");
        asks(1, 6, "total dayss");
        asks(1, 6, "total NUMBER");
        asks(1, 8, "total (1");
        asks(1, 8, "total (1}");
        asks(1, 7, "total ()");
        asks(1, 7, "total 1)");
        asks(1, 7, "total ({1=1})");
        asks(1, 7, "total (not 1=1)");
        asks(1, 6, "total not 1");
        asks(1, 6, "total {1}");
        asks(1, 6, "many {}");
        asks(1, 9, "many {1=1");
        asks(1, 9, "many {1=1)");
        asks(1, 8, "many 1=1}");
        asks(1, 12, "many 1=1 and");
        asks(1, 13, "many 1=1 and or 1=1");
        asks(1, 11, "many 1=1 or");
        asks(1, 7, "many (1=1)");
        asks(1, 5, "many and 1=1");
        asks(1, 8, "many not");
        asks(1, 7, "many 1<=1");
        asks(1, 6, "many 1;");
        asks(1, 7, "total 1;");
        asks(2, 6, "total 10000");
        asks(2, 7, "many 1=99999999999999999999999999");
        asks(2, 6, "total 4294967297");
        asks(1, 8, "total 1 99999");
        asks(3, 12, "total (((((((1)))))))");
        asks(3, 11, "many {{{{{{{1=1}}}}}}}");
        asks(3, 29, "many not not not not not not not 1=1");
        asks(3, 15, "many not{not{{((1)=1}}}");
        asks(3, 33, "many not not not not not not 1=1+(1)");
        asks(3, 29, "many not not not not not not (1)=1");
        asks(3, 12, "total ((((((({");
        asks(1, 12, "total (((((({");
        asks(3, 30, "total ((((((1))))))+((((((1)+((");
    }

    private static void chain() {
        CHECKS.part("28 chain");
        PromisedStock x = Checks.of("stage a 2 1;stage b 2 1;stage c 1 1;stage d 3 1;stage e 1 1 outer 9;"
            + "from b c;from a c;from c d;from d e;");
        int[] due = {3, 2, 0};
        is("how many", 3, x.chain(3, NONE));
        for (int k = 0; k < 3; k++) {
            is("stage " + k, due[k], x.chain(3, k));
        }
        noSuch("k 3", () -> x.chain(3, 3));
        noSuch("k -2", () -> x.chain(3, -2));
        is("what comes from outside is later", 1, x.chain(4, NONE));
        is("itself", 4, x.chain(4, 0));
        x.change(4, 2, 6);
        is("just as late", 4, x.chain(4, NONE));
        x.change(1, 0, 3);
        is("the greatest longest", 1, x.chain(3, 2));
        is("without suppliers", 1, x.chain(0, NONE));
        noSuch("k 1", () -> x.chain(0, 1));
        noSuch("stage 5", () -> x.chain(5, 0));
        noSuch("stage -1", () -> x.chain(-1, NONE));
        PromisedStock all = Checks.of(TWELVE);
        for (int s = 1; s < 12; s++) {
            all.supply(s, s - 1);
        }
        is("all", 12, all.chain(0, NONE));
        is("the last", 11, all.chain(0, 11));
        noSuch("behind it", () -> all.chain(0, 12));
    }

    private static void frontier() {
        CHECKS.part("29 frontier");
        PromisedStock x = Checks.of(TWO);
        is("how many", 6, x.frontier(NONE));
        for (int k = 0; k < 6; k++) {
            is("promise " + k, k, x.frontier(k));
        }
        noSuch("6", () -> x.frontier(6));
        noSuch("-2", () -> x.frontier(-2));
        noSuch("21", () -> x.frontier(21));
        x.pin(1, 3);
        is("with a pin", 1, x.frontier(NONE));
        is("those without a plan aren't in it", 3, x.frontier(0));
        x.pin(1, 21);
        is("no plan", 0, x.frontier(NONE));
        noSuch("0", () -> x.frontier(0));
        PromisedStock flat = Checks.of("stage a 9 1 demand 0 1;z 100;");
        // ROOT of 9, 8, .. 0 days: 3 3 3 3 3 2 2 2 1 0: only those that are less than all ahead.
        int[] due = {0, 5, 8, 9};
        is("how many", 4, flat.frontier(NONE));
        for (int k = 0; k < 4; k++) {
            is("promise " + k, due[k], flat.frontier(k));
        }
        PromisedStock far = Checks.of("stage a 9 9 outer 9;stage b 9 9 demand 0 9999;from a b;");
        is("up to 20", 21, far.frontier(NONE));
        is("up to 20", 20, far.frontier(20));
    }

    private static void imageAndBack() {
        CHECKS.part("30 image, 31 back");
        PromisedStock x = Checks.of(TWO);
        is("nothing is kept", false, x.back());
        x.pin(0, 2);
        x.promise(0, 2);
        x.demand(1, 4, 44);
        x.change(0, 6, 300);
        x.image();
        is("acts stay", 2, x.count(5));
        x.add(0, true, 1, 1);
        x.promise(2, 7);
        x.demand(2, 4, 7);
        x.pin(0, NONE);
        x.promise(0, 1);
        x.demand(1, 4, 4);
        x.change(0, 6, 1);
        x.change(1, 1, 1);
        Checks.feed(x, "x");
        is("back", true, x.back());
        is("no acts", 0, x.count(5));
        is("undo", NONE, x.undo());
        is("stages", 2, x.count(0));
        is("supplies", 1, x.count(1));
        is("no supplier any more", 0, x.stage(0, 10));
        is("z", 300, x.count(2));
        is("pin", 2, x.stage(0, 6));
        is("cost", 10, x.stage(1, 1));
        is("time", 2, x.planned(0, 0));
        is("demand", 44, x.day(1, 4, 0));
        is("letter", 13, x.letter(0, 0));
        is("the tape stays", 20, x.count(6));
        x.add(0, true, 1, 1);
        is("time of a new one", 0, x.planned(2, 0));
        is("demand of a new one", 0, x.day(2, 4, 0));
        Checks.tell(x, "stage q 1 1;");
        is("it is kept all the same", true, x.back());
        is("stages", 2, x.count(0));
        is("letter", 19, x.letter(1, 0));
        x.change(1, 1, 77);
        x.image();
        x.change(1, 1, 78);
        is("even", true, x.even(0) > 0);
        is("the latest", true, x.back());
        is("cost", 77, x.stage(1, 1));
        is("undo of what was", NONE, x.undo());
    }
}
