import java.util.Arrays;
import java.util.List;

/** Objects made alike, some of which get a call more: a call that changes nothing must leave no trace in what later calls answer. */
final class Twins {
    interface Doing {
        void on(PromisedStock x);
    }

    interface Call {
        Object on(PromisedStock x);
    }

    interface CallOf {
        Object on(PromisedStock x, int v);
    }

    static final String NO_SUCH = "NoSuchElementException";
    static final String ILLEGAL = "IllegalArgumentException";

    private static final int[] DAYS_LOOKED_AT = {0, 3, 7, 39};

    private final Checks checks;
    private final Doing making;

    Twins(Checks checks, Doing making) {
        this.checks = checks;
        this.making = making;
    }

    private PromisedStock made() {
        PromisedStock x = new PromisedStock();
        making.on(x);
        return x;
    }

    /** What a call answers, or the name of what it throws. */
    static Object answer(PromisedStock x, Call call) {
        try {
            return call.on(x);
        } catch (RuntimeException e) {
            return e.getClass().getSimpleName();
        }
    }

    /** The call answers that (or throws that), and nothing at all changes. */
    void leavesAll(String what, Object due, Call call) {
        checks.is(what, due, answer(made(), call));
        same(what, call, true);
    }

    /** The call answers that, and nothing changes but the tape, which is empty then, and the place of the latest FAULT. */
    void leavesAllButTape(String what, Object due, Call call) {
        PromisedStock x = made();
        checks.is(what, due, answer(x, call));
        checks.is(what + ": bytes of the tape", 0, x.count(6));
        same(what, call, false);
    }

    void noSuch(String what, Call call) {
        leavesAll(what, NO_SUCH, call);
    }

    void illegal(String what, Call call) {
        leavesAll(what, ILLEGAL, call);
    }

    /** From least to most the call isn't refused; beyond them, and far away, it is, and nothing changes. */
    void range(String what, int least, int most, Object refusal, CallOf call) {
        for (int v : new int[] {least, most}) {
            Object answer = answer(made(), x -> call.on(x, v));
            checks.is(what + " " + v + " is taken", true, !refusal.equals(answer) && !NO_SUCH.equals(answer) && !ILLEGAL.equals(answer));
        }
        int[] beyond = {least - 1, most + 1, Integer.MIN_VALUE, Integer.MAX_VALUE, least + 256, most - 256, least + 65536,
            most - 65536, least - 1000000, Integer.MIN_VALUE + most};
        for (int v : beyond) {
            if (v < least || v > most) {
                leavesAll(what + " " + v, refusal, x -> call.on(x, v));
            }
        }
    }

    private void same(String what, Call call, boolean withTape) {
        List<Call> looks = Arrays.asList(x -> seen(x, withTape), x -> undone(x, withTape), x -> back(x, withTape), Twins::tape);
        for (Call look : withTape ? looks : looks.subList(0, 3)) {
            PromisedStock x = made();
            answer(x, call);
            checks.is("after " + what, look.on(made()), look.on(x));
        }
    }

    private static Object undone(PromisedStock x, boolean withTape) {
        StringBuilder out = new StringBuilder();
        for (int i = 0; i < 22; i++) {
            out.append(x.undo()).append(' ');
        }
        return out.append(seen(x, withTape)).toString();
    }

    private static Object back(PromisedStock x, boolean withTape) {
        return x.back() + " " + x.undo() + " " + seen(x, withTape);
    }

    private static Object tape(PromisedStock x) {
        return x.network(x.count(6)) + " " + x.fault() + " " + seen(x, true);
    }

    /** All that can be asked of an object without changing it, as one text. */
    static String seen(PromisedStock x, boolean withTape) {
        StringBuilder out = new StringBuilder(withTape ? x.count(6) + " fault " + x.fault() : "");
        out.append(" counts");
        for (int what = 0; what < 6; what++) {
            out.append(' ').append(x.count(what));
        }
        out.append(" plan ").append(x.plan(0)).append(' ').append(x.plan(1)).append(' ').append(x.plan(2));
        out.append(" least ").append(x.least()).append(" frontier ").append(x.frontier(PromisedStock.NONE));
        for (int s = 0; s < x.count(0); s++) {
            out.append(" stage ").append(s);
            for (int k = 0; k < 6; k++) {
                out.append(' ').append(x.letter(s, k));
            }
            for (int what = 0; what < 12; what++) {
                out.append(' ').append(x.stage(s, what));
            }
            for (int what = 0; what < 6; what++) {
                out.append(' ').append(x.planned(s, what));
            }
            for (int day : DAYS_LOOKED_AT) {
                out.append(' ').append(x.day(s, day, 0));
            }
        }
        return out.toString();
    }
}
