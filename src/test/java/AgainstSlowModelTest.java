import java.lang.reflect.InvocationTargetException;
import java.lang.reflect.Method;
import java.util.ArrayList;
import java.util.List;
import java.util.Random;

/** Runs of calls, drawn from fixed seeds: PromisedStock must answer each call as SlowModel does. */
public final class AgainstSlowModelTest {
    private static final String[] VALUES = {"number", "days", "cost", "outer", "mean", "spread", "promise", "pin",
        "flow", "width", "longest", "suppliers", "customers", "time", "wait", "net", "held", "base", "price"};

    private final Random random;
    private final boolean small;
    private final PromisedStock stock = new PromisedStock();
    private final SlowModel slow = new SlowModel();
    private final List<String> run = new ArrayList<>();
    private boolean wrong;
    private int calls;

    private AgainstSlowModelTest(long seed, boolean small) {
        random = new Random(seed);
        this.small = small;
    }

    public static void main(String[] args) throws Exception {
        int runs = args.length > 0 ? Integer.parseInt(args[0]) : 800;
        int first = args.length > 1 ? Integer.parseInt(args[1]) : 0;
        long calls = 0;
        for (int i = first; i < first + runs; i++) {
            AgainstSlowModelTest test = new AgainstSlowModelTest(i, i % 4 != 0);
            test.go();
            calls += test.calls;
            if (test.wrong) {
                System.out.println("run of seed " + i + ":");
                test.run.forEach(System.out::println);
                System.exit(1);
            }
        }
        System.out.println(calls + " calls answered as the slow model does");
    }

    private static String answer(Object on, String name, Object... args) throws Exception {
        Class<?>[] types = new Class<?>[args.length];
        for (int i = 0; i < args.length; i++) {
            types[i] = args[i] instanceof Boolean ? boolean.class : int.class;
        }
        Method method = on.getClass().getDeclaredMethod(name, types);
        method.setAccessible(true);
        try {
            return String.valueOf(method.invoke(on, args));
        } catch (InvocationTargetException e) {
            return "throws " + e.getCause().getClass().getName();
        }
    }

    private String call(String name, Object... args) throws Exception {
        String is = answer(stock, name, args);
        String due = answer(slow, name, args);
        calls++;
        run.add("  " + name + java.util.Arrays.toString(args) + " -> " + is + (is.equals(due) ? "" : ", due " + due));
        wrong |= !is.equals(due);
        return is;
    }

    private int upTo(int most) {
        return random.nextInt(most + 1);
    }

    // Mostly within least to most, at times just outside or far away.
    private int near(int least, int most) {
        int how = upTo(29);
        if (how == 0) {
            return least - 1;
        }
        if (how == 1) {
            return most + 1;
        }
        if (how == 2) {
            return random.nextBoolean() ? Integer.MIN_VALUE : Integer.MAX_VALUE;
        }
        return how < 6 ? (random.nextBoolean() ? least : most) : least + upTo(most - least);
    }

    private int aStage() {
        return near(0, Math.max(0, slow.net().stages.size() - 1));
    }

    private int few(int most) {
        return upTo(small ? Math.min(3, most) : most);
    }

    private int feedText(String text) throws Exception {
        int n = text.length();
        StringBuilder padded = new StringBuilder(text);
        while (padded.length() % 20 != 0) {
            padded.append(' ');
        }
        for (int i = 0; i + 20 <= padded.length(); i += 20) {
            Object[] five = new Object[5];
            for (int k = 0; k < 5; k++) {
                int v = 0;
                for (int b = 0; b < 4; b++) {
                    v = v << 8 | padded.charAt(i + 4 * k + b) & 255;
                }
                five[k] = v;
            }
            call("feed", five);
        }
        return n;
    }

    private String spoil(String text) {
        StringBuilder spoilt = new StringBuilder(text);
        int times = upTo(5) > 0 ? 1 : 1 + upTo(3);
        String signs = "az;09{}()<=>+-* \n" + (char) 200 + (char) 0 + "AstagefromZ";
        for (int i = 0; i < times; i++) {
            int at = upTo(spoilt.length());
            int how = upTo(2);
            if (how == 0) {
                spoilt.insert(at, signs.charAt(upTo(signs.length() - 1)));
            } else if (at < spoilt.length() && how == 1) {
                spoilt.deleteCharAt(at);
            } else if (at < spoilt.length()) {
                spoilt.setCharAt(at, signs.charAt(upTo(signs.length() - 1)));
            }
        }
        return spoilt.toString();
    }

    private String networkText() {
        int stages = small ? upTo(5) : upTo(13);
        StringBuilder text = new StringBuilder();
        List<Integer> order = new ArrayList<>();
        for (int s = 0; s < stages; s++) {
            text.append("stage ").append(aName(s)).append(' ').append(few(9)).append(' ').append(aNumber(999));
            if (upTo(3) == 0) {
                text.append(" outer ").append(few(9));
            }
            if (upTo(2) > 0) {
                text.append(" demand ").append(aNumber(99)).append(' ').append(aNumber(random.nextBoolean() ? 30 : 9999));
            }
            if (upTo(2) == 0) {
                text.append(" promise ").append(upTo(2) == 0 ? upTo(20) : upTo(4));
            }
            text.append(upTo(1) == 0 ? ";" : " ;\n");
            order.add(s);
        }
        java.util.Collections.shuffle(order, random);
        for (int i = 1; i < stages; i++) {
            if (upTo(9) > 0) {
                String a = aName(order.get(i));
                String b = aName(order.get(random.nextInt(i)));
                boolean up = random.nextBoolean();
                text.append("from ").append(up ? a : b).append(' ').append(up ? b : a).append(';');
            }
        }
        if (upTo(3) == 0) {
            text.append("z ").append(aNumber(400)).append(';');
        }
        return text.length() > 400 ? text.substring(0, 400) : text.toString();
    }

    private String aName(int s) {
        return small && s == 2 ? "abcdef" : String.valueOf((char) ('a' + s)) + (s % 3 == 1 ? "x" : "");
    }

    private String aNumber(int most) {
        int v = upTo(24) == 0 ? most + 1 : upTo(1) == 0 ? upTo(most) : upTo(Math.min(most, 12));
        return (upTo(12) == 0 ? "00" : "") + v;
    }

    private String test(int depth) {
        int how = upTo(depth > 7 ? 3 : 9);
        if (how < 4) {
            return sum(depth) + "<=>".charAt(upTo(2)) + sum(depth);
        }
        if (how < 6) {
            return "not " + test(depth + 1);
        }
        if (how < 8) {
            return "{" + test(depth + 1) + "}";
        }
        return test(depth + 1) + (random.nextBoolean() ? " and " : " or ") + test(depth + 1);
    }

    private String sum(int depth) {
        int how = upTo(depth > 7 ? 5 : 9);
        if (how < 4) {
            return VALUES[upTo(VALUES.length - 1)];
        }
        if (how < 6) {
            return aNumber(random.nextBoolean() ? 9999 : 9);
        }
        if (how < 7) {
            return "(" + sum(depth + 1) + ")";
        }
        return sum(depth + 1) + " +-*".charAt(1 + upTo(2)) + sum(depth + 1);
    }

    private String question() {
        String[] asked = {"many ", "first ", "total ", "most ", "least "};
        int how = upTo(4);
        String text = asked[how] + (how < 2 ? test(0) : sum(0));
        return text.length() > 200 ? text.substring(0, 200) : text;
    }

    private void go() throws Exception {
        int most = 40 + upTo(400);
        if (upTo(9) > 0) {
            tell();
        }
        while (calls < most && !wrong) {
            step(upTo(40));
        }
    }

    private void tell() throws Exception {
        String text = networkText();
        text = upTo(4) == 0 ? spoil(text) : text;
        text = text.length() > 400 ? text.substring(0, 400) : text;
        int n = feedText(text);
        call("network", upTo(19) == 0 ? near(0, n) : n);
        call("fault");
    }

    private void ask() throws Exception {
        String text = question();
        text = upTo(3) == 0 ? spoil(text) : text;
        int n = feedText(text.length() > 200 ? text.substring(0, 200) : text);
        call("ask", upTo(19) == 0 ? near(0, 200) : n);
        call("fault");
    }

    private void step(int how) throws Exception {
        switch (how) {
            case 0: if (upTo(7) == 0) tell(); return;
            case 1: case 2: case 3: case 4: ask(); return;
            case 5: call("count", near(0, 6)); return;
            case 6: call("letter", aStage(), near(0, 5)); return;
            case 7: case 8: call("stage", aStage(), near(0, 11)); return;
            case 9: call("bound", aStage(), near(0, 1), near(0, 999)); return;
            case 10: case 11: change(); return;
            case 12: call("add", aStage(), random.nextBoolean(), small ? few(9) : near(0, 9), near(0, 999)); return;
            case 13: call("supply", aStage(), aStage()); return;
            case 14: call("pin", aStage(), upTo(2) == 0 ? NONE : small ? upTo(6) : near(-1, 119)); return;
            case 15: case 16: call("undo"); return;
            case 17: call("take", 2 * upTo(1) + 1); return;
            case 18: call("promise", aStage(), small ? upTo(6) : near(0, 119)); return;
            case 19: case 20: call("planned", aStage(), near(0, 5)); return;
            case 21: case 22: call("plan", near(0, 2)); return;
            case 23: call("demand", aStage(), near(0, 39), near(0, 999)); return;
            case 24: call("drawn", aStage(), random.nextInt()); return;
            case 25: case 26: call("day", aStage(), near(0, 39), near(0, 3)); return;
            case 27: case 28: call("days", aStage(), near(0, 2)); return;
            case 29: call("chain", aStage(), near(-1, 4)); return;
            case 30: if (upTo(2) == 0) call("image"); return;
            case 31: if (upTo(4) == 0) call("back"); return;
            case 32: if (upTo(4) == 0) call("feed", 0, 1, 2, 3, random.nextInt()); return;
            case 33: if (upTo(4) == 0) call("take", upTo(3) == 0 ? near(4, 9) : 0); return;
            default: byBest(how - 34);
        }
    }

    private static final int NONE = -1;

    private void change() throws Exception {
        int what = near(0, 6);
        int[] most = {small ? 3 : 9, 999, small ? 3 : 9, 99, 9999, 20, 400};
        call("change", aStage(), what, what < 0 || what > 6 ? 0 : near(what == 5 ? -1 : 0, most[what]));
    }

    private void byBest(int how) throws Exception {
        switch (how) {
            case 0: call("take", 2); return;
            case 1: call("least"); return;
            case 2: call("worth", aStage(), near(0, 2)); return;
            case 3: call("even", near(0, 20)); return;
            case 4: call("budget", upTo(3) == 0 ? near(0, 5000) : upTo(300)); return;
            case 5: call("pinned", aStage(), upTo(4) == 0 ? near(0, 119) : upTo(8)); return;
            default: call("frontier", near(-1, 4));
        }
    }
}
