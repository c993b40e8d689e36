/** Objects with something of all that an object can hold, so that a call that should change nothing can't hide. */
final class Recipes {
    private Recipes() {
    }

    /** Three STAGES, a PIN, a PROMISE, TIMES, DEMANDS, ACTS, another state kept, 40 bytes on the tape, a FAULT at 4. */
    static void rich(PromisedStock x) {
        Checks.tell(x, "stage mill 3 2;stage shop 2 10 demand 4 16 promise 3;from mill shop;z 100;");
        x.demand(1, 3, 30);
        x.demand(0, 39, 1);
        x.promise(0, 2);
        x.change(1, 1, 11);
        x.image();
        x.pin(0, 1);
        x.change(9, 6, 200);
        x.change(1, 2, 1);
        x.add(1, false, 2, 3);
        x.change(2, 4, 25);
        x.promise(2, 4);
        x.promise(0, 1);
        x.demand(2, 7, 8);
        x.demand(2, 0, 80);
        x.demand(1, 3, 31);
        Checks.ask(x, "many");
        Checks.feed(x, "stage q 1 1;stage r 2 2;from q r;z 7;");
    }

    /** Twelve STAGES in a row, and 24 ACTS, of which 20 are kept. */
    static void twelve(PromisedStock x) {
        Checks.tell(x, "stage a 1 1 demand 1 1;");
        for (int s = 1; s < 12; s++) {
            x.add(s - 1, s % 2 == 0, s % 10, 10 * s);
        }
        for (int i = 0; i < 12; i++) {
            x.change(i, 4, 3 * i);
        }
        x.pin(4, 2);
        x.image();
        x.promise(11, 3);
        x.demand(11, 39, 999);
        Checks.feed(x, "stage q 1 1;");
    }

    /** Two STAGES apart and an object that has nothing kept, no ACTS, no tape, no FAULT. */
    static void plain(PromisedStock x) {
        Checks.tell(x, "stage a 1 1;stage b 2 2 demand 3 4;");
    }

    static void nothing(PromisedStock x) {
        x.count(0);
    }
}
