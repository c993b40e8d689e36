import java.util.ArrayDeque;
import java.util.ArrayList;
import java.util.Arrays;
import java.util.Deque;
import java.util.List;
import java.util.NoSuchElementException;

/**
 * The document once more, told as plainly as can be and without regard to speed: what PromisedStock answers is held
 * against it. BEST is found by trying all PLANS, so only small NETWORKS can be asked for it (see canTryAll).
 */
final class SlowModel {
    static final int NONE = -1;

    static final class Stage {
        String name = "";
        int[] told = {0, 0, 0, 0, 0, NONE, NONE};
        int time;
        int[] demand = new int[40];

        Stage copy() {
            Stage c = new Stage();
            c.name = name;
            c.told = told.clone();
            c.time = time;
            c.demand = demand.clone();
            return c;
        }
    }

    static final class Fault extends Exception {
        private static final long serialVersionUID = 1L;
        final int kind;
        final int place;

        Fault(int kind, int place) {
            this.kind = kind;
            this.place = place;
        }
    }

    static final class Net {
        List<Stage> stages = new ArrayList<>();
        List<int[]> supplies = new ArrayList<>();
        int z = 165;

        Net copy() {
            Net c = new Net();
            for (Stage s : stages) {
                c.stages.add(s.copy());
            }
            for (int[] p : supplies) {
                c.supplies.add(p.clone());
            }
            c.z = z;
            return c;
        }

        List<Integer> suppliers(int s) {
            List<Integer> out = new ArrayList<>();
            for (int[] p : supplies) {
                if (p[1] == s) {
                    out.add(p[0]);
                }
            }
            out.sort(null);
            return out;
        }

        List<Integer> customers(int s) {
            List<Integer> out = new ArrayList<>();
            for (int[] p : supplies) {
                if (p[0] == s) {
                    out.add(p[1]);
                }
            }
            out.sort(null);
            return out;
        }

        int flow(int s) {
            int v = stages.get(s).told[3];
            for (int c : customers(s)) {
                v += flow(c);
            }
            return v;
        }

        int width(int s) {
            int v = stages.get(s).told[4];
            for (int c : customers(s)) {
                v += width(c);
            }
            return v;
        }

        int longest(int s) {
            int v = stages.get(s).told[2];
            for (int c : suppliers(s)) {
                v = Math.max(v, longest(c));
            }
            return v + stages.get(s).told[0];
        }

        int called(int s, int day) {
            if (day < 0) {
                return 0;
            }
            int v = stages.get(s).demand[day];
            for (int c : customers(s)) {
                v += called(c, day);
            }
            return v;
        }

        int root(int s, int n) {
            long want = (long) z * z * width(s) * n;
            int x = (int) (Math.sqrt((double) want) / 100);
            while (x > 0 && 10000L * (x - 1) * (x - 1) >= want) {
                x--;
            }
            while (10000L * x * x < want) {
                x++;
            }
            return x;
        }

        int bound(int s, int n) {
            return n * flow(s) + root(s, n);
        }

        int waits(int s) {
            int v = stages.get(s).told[2];
            for (int c : suppliers(s)) {
                v = Math.max(v, stages.get(c).time);
            }
            return v;
        }

        int net(int s) {
            return waits(s) + stages.get(s).told[0] - stages.get(s).time;
        }

        boolean holdsAt(int s) {
            Stage st = stages.get(s);
            return net(s) >= 0 && (st.told[5] == NONE || st.time <= st.told[5])
                && (st.told[6] == NONE || st.time == st.told[6]);
        }

        int firstNotHolding() {
            for (int s = 0; s < stages.size(); s++) {
                if (!holdsAt(s)) {
                    return s;
                }
            }
            return NONE;
        }

        int price() {
            int v = 0;
            for (int s = 0; s < stages.size(); s++) {
                v += stages.get(s).told[1] * root(s, net(s));
            }
            return v;
        }

        List<Integer> suppliersAhead() {
            List<Integer> out = new ArrayList<>();
            while (out.size() < stages.size()) {
                for (int s = 0; s < stages.size(); s++) {
                    if (!out.contains(s) && out.containsAll(suppliers(s))) {
                        out.add(s);
                    }
                }
            }
            return out;
        }

        boolean together(int a, int b) {
            List<Integer> part = new ArrayList<>();
            Deque<Integer> todo = new ArrayDeque<>();
            todo.add(a);
            while (!todo.isEmpty()) {
                int s = todo.poll();
                if (!part.contains(s)) {
                    part.add(s);
                    todo.addAll(suppliers(s));
                    todo.addAll(customers(s));
                }
            }
            return part.contains(b);
        }

        int parts() {
            int v = 0;
            for (int s = 0; s < stages.size(); s++) {
                boolean first = true;
                for (int t = 0; t < s; t++) {
                    first &= !together(s, t);
                }
                v += first ? 1 : 0;
            }
            return v;
        }

        boolean canTryAll() {
            double plans = 1;
            for (int s = 0; s < stages.size(); s++) {
                plans *= longest(s) + 1;
            }
            return plans <= 60000;
        }

        /** BEST; null: there is none. Where all PLANS can be tried, both ways to find it must tell the same. */
        PartsBest.Part best() {
            PartsBest.Part found = PartsBest.of(this);
            if (canTryAll()) {
                Trial trial = new Trial(this);
                trial.go(0, 0);
                boolean same = found == null ? trial.found == null
                    : found.price == trial.price && Arrays.equals(found.time, trial.found);
                if (!same) {
                    throw new IllegalStateException("all PLANS tried tell another BEST");
                }
            }
            return found;
        }

        int bestPrice() {
            PartsBest.Part found = best();
            return found == null ? NONE : found.price;
        }
    }

    /** All PLANS, suppliers ahead of whom they supply. */
    static final class Trial {
        final Net net;
        final List<Integer> order;
        final int[] time;
        final int[][] rootBy;
        int price;
        int[] found;

        Trial(Net net) {
            this.net = net;
            order = net.suppliersAhead();
            time = new int[net.stages.size()];
            rootBy = new int[time.length][130];
            for (int s = 0; s < time.length; s++) {
                for (int n = 0; n < 130; n++) {
                    rootBy[s][n] = net.root(s, n);
                }
            }
        }

        void go(int i, int sofar) {
            if (found != null && sofar > price) {
                return;
            }
            if (i == order.size()) {
                if (found == null || sofar < price || Arrays.compare(time, found) < 0) {
                    found = time.clone();
                    price = sofar;
                }
                return;
            }
            int s = order.get(i);
            Stage st = net.stages.get(s);
            int w = st.told[2];
            for (int c : net.suppliers(s)) {
                w = Math.max(w, time[c]);
            }
            for (int t = 0; t <= 119 && t <= w + st.told[0]; t++) {
                if (st.told[5] != NONE && t > st.told[5] || st.told[6] != NONE && t != st.told[6]) {
                    continue;
                }
                time[s] = t;
                go(i + 1, sofar + st.told[1] * rootBy[s][w + st.told[0] - t]);
            }
        }
    }

    private Net net = new Net();
    private Net image;
    private final StringBuilder tape = new StringBuilder();
    private final List<Runnable> undos = new ArrayList<>();
    private int fault = NONE;

    Net net() {
        return net;
    }

    private static void there(boolean ok) {
        if (!ok) {
            throw new NoSuchElementException();
        }
    }

    private static void good(boolean ok) {
        if (!ok) {
            throw new IllegalArgumentException();
        }
    }

    private void stageThere(int s) {
        there(s >= 0 && s < net.stages.size());
    }

    private void act(Runnable undo) {
        undos.add(undo);
        if (undos.size() > 20) {
            undos.remove(0);
        }
    }

    int feed(int a, int b, int c, int d, int e) {
        if (tape.length() + 20 > 400) {
            return NONE;
        }
        for (int v : new int[] {a, b, c, d, e}) {
            for (int k = 3; k >= 0; k--) {
                tape.append((char) (v >> 8 * k & 255));
            }
        }
        return tape.length();
    }

    int network(int n) {
        good(n >= 0 && n <= tape.length());
        String text = tape.substring(0, n);
        tape.setLength(0);
        try {
            Net read = new SlowReader(text).network();
            fault = NONE;
            net = read;
            undos.clear();
            return net.stages.size();
        } catch (Fault f) {
            fault = f.place;
            return -10 - f.kind;
        }
    }

    int fault() {
        return fault;
    }

    int count(int what) {
        there(what >= 0 && what <= 6);
        int pins = 0;
        for (Stage s : net.stages) {
            pins += s.told[6] == NONE ? 0 : 1;
        }
        return new int[] {net.stages.size(), net.supplies.size(), net.z, net.parts(), pins, undos.size(),
            tape.length()}[what];
    }

    int letter(int s, int k) {
        stageThere(s);
        there(k >= 0 && k <= 5);
        String name = net.stages.get(s).name;
        return k < name.length() ? name.charAt(k) - 96 : 0;
    }

    private static int bits(List<Integer> list) {
        int v = 0;
        for (int s : list) {
            v |= 1 << s;
        }
        return v;
    }

    int stage(int s, int what) {
        stageThere(s);
        there(what >= 0 && what <= 11);
        if (what <= 6) {
            return net.stages.get(s).told[what];
        }
        return new int[] {net.flow(s), net.width(s), net.longest(s), bits(net.suppliers(s)),
            bits(net.customers(s))}[what - 7];
    }

    int bound(int s, int how, int n) {
        stageThere(s);
        there(how == 0 || how == 1);
        good(n >= 0 && n <= 999);
        return how == 0 ? net.root(s, n) : net.bound(s, n);
    }

    int change(int s, int what, int v) {
        there(what >= 0 && what <= 6);
        Net here = net;
        if (what == 6) {
            good(v >= 0 && v <= 400);
            int was = net.z;
            act(() -> here.z = was);
            net.z = v;
            return was;
        }
        stageThere(s);
        good(v >= (what == 5 ? -1 : 0) && v <= new int[] {9, 999, 9, 99, 9999, 20}[what]);
        return tell(s, what, v);
    }

    private int tell(int s, int what, int v) {
        int[] told = net.stages.get(s).told;
        int was = told[what];
        act(() -> told[what] = was);
        told[what] = v;
        return was;
    }

    int add(int s, boolean up, int days, int cost) {
        int size = net.stages.size();
        if (size >= 12 || s < 0 || s >= size || days < 0 || days > 9 || cost < 0 || cost > 999) {
            return NONE;
        }
        Stage more = new Stage();
        more.told[0] = days;
        more.told[1] = cost;
        net.stages.add(more);
        net.supplies.add(up ? new int[] {size, s} : new int[] {s, size});
        Net here = net;
        act(() -> {
            here.stages.remove(size);
            here.supplies.remove(here.supplies.size() - 1);
        });
        return size;
    }

    int supply(int from, int to) {
        int size = net.stages.size();
        if (from < 0 || to < 0 || from >= size || to >= size || net.together(from, to)) {
            return NONE;
        }
        net.supplies.add(new int[] {from, to});
        Net here = net;
        act(() -> here.supplies.remove(here.supplies.size() - 1));
        return net.supplies.size();
    }

    int pin(int s, int time) {
        stageThere(s);
        good(time >= -1 && time <= 119);
        return tell(s, 6, time);
    }

    int undo() {
        if (undos.isEmpty()) {
            return NONE;
        }
        undos.remove(undos.size() - 1).run();
        return undos.size();
    }

    int take(int rule) {
        if (rule < 0 || rule > 3) {
            return NONE;
        }
        PartsBest.Part best = rule == 2 ? net.best() : null;
        if (rule == 2 && best == null) {
            return NONE;
        }
        for (int s : net.suppliersAhead()) {
            Stage st = net.stages.get(s);
            if (rule == 0) {
                st.time = 0;
            } else if (rule == 2) {
                st.time = best.time[s];
            } else {
                int t = net.waits(s) + st.told[0];
                t = st.told[5] == NONE ? t : Math.min(t, st.told[5]);
                st.time = st.told[6] == NONE ? t : Math.min(t, st.told[6]);
            }
        }
        if (rule == 3) {
            for (Stage st : net.stages) {
                st.time = st.told[6] == NONE ? st.time / 2 : st.told[6];
            }
        }
        return net.firstNotHolding() == NONE ? net.price() : -2;
    }

    int promise(int s, int time) {
        stageThere(s);
        good(time >= 0 && time <= 119);
        int was = net.stages.get(s).time;
        net.stages.get(s).time = time;
        return was;
    }

    int planned(int s, int what) {
        stageThere(s);
        there(what >= 0 && what <= 5);
        return planned(net, s, what);
    }

    static int planned(Net net, int s, int what) {
        int n = net.net(s);
        switch (what) {
            case 0: return net.stages.get(s).time;
            case 1: return net.waits(s);
            case 2: return n;
            case 3: return n < 0 ? NONE : net.root(s, n);
            case 4: return n < 0 ? NONE : net.bound(s, n);
            default: return n < 0 ? NONE : net.stages.get(s).told[1] * net.root(s, n);
        }
    }

    int plan(int what) {
        there(what >= 0 && what <= 2);
        if (what == 0) {
            return net.firstNotHolding() == NONE ? net.price() : NONE;
        }
        if (what == 1) {
            return net.firstNotHolding();
        }
        int v = 0;
        for (int s = 0; s < net.stages.size(); s++) {
            v |= net.net(s) >= 0 && net.root(s, net.net(s)) > 0 ? 1 << s : 0;
        }
        return v;
    }

    int least() {
        return net.bestPrice();
    }

    int worth(int s, int what) {
        stageThere(s);
        there(what >= 0 && what <= 2);
        Net other = net.copy();
        int[] told = other.stages.get(s).told;
        if (what == 0 && told[0] == 0 || what == 1 && told[5] == NONE || what == 2 && told[6] == NONE) {
            return 0;
        }
        if (what == 0) {
            told[0]--;
        } else if (what == 1) {
            told[5]++;
        } else {
            told[6] = NONE;
        }
        int now = net.bestPrice();
        int then = other.bestPrice();
        return now == NONE || then == NONE ? -1000000 : now - then;
    }

    int even(int p) {
        good(p >= 0 && p <= 20);
        Net other = net.copy();
        for (int s = 0; s < other.stages.size(); s++) {
            other.stages.get(s).told[5] = other.customers(s).isEmpty() ? p : NONE;
        }
        return other.bestPrice();
    }

    int budget(int price) {
        for (int p = 0; p <= 20; p++) {
            int v = even(p);
            if (v != NONE && v <= price) {
                return p;
            }
        }
        return NONE;
    }

    int pinned(int s, int time) {
        stageThere(s);
        good(time >= 0 && time <= 119);
        Net other = net.copy();
        other.stages.get(s).told[6] = time;
        return other.bestPrice();
    }

    int demand(int s, int day, int v) {
        stageThere(s);
        there(day >= 0 && day <= 39);
        good(v >= 0 && v <= 999);
        int was = net.stages.get(s).demand[day];
        net.stages.get(s).demand[day] = v;
        return was;
    }

    int drawn(int s, int seed) {
        stageThere(s);
        int n = 2 * net.stages.get(s).told[3] + 1;
        int all = 0;
        int x = seed;
        for (int day = 0; day < 40; day++) {
            x = x * 1103515245 + 12345;
            int v = (x >> 16 & 0x7fff) % n;
            net.stages.get(s).demand[day] = v;
            all += v;
        }
        return all;
    }

    private int onHand(int s, int day) {
        int v = net.bound(s, net.net(s));
        for (int k = 0; k < net.net(s); k++) {
            v -= net.called(s, day - net.stages.get(s).time - k);
        }
        return v;
    }

    private int breaks(int s, int day) {
        int most = 0;
        int all = 0;
        for (int n = 1; n <= day + 1; n++) {
            all += net.called(s, day - n + 1);
            most = all > net.bound(s, n) ? n : most;
        }
        return most;
    }

    int day(int s, int day, int what) {
        stageThere(s);
        there(day >= 0 && day <= 39 && what >= 0 && what <= 3);
        switch (what) {
            case 0: return net.stages.get(s).demand[day];
            case 1: return net.called(s, day);
            case 2: return net.net(s) < 0 ? -1000000 : onHand(s, day);
            default: return breaks(s, day);
        }
    }

    int days(int s, int what) {
        stageThere(s);
        there(what >= 0 && what <= 2);
        if (what == 1) {
            for (int day = 0; day < 40; day++) {
                if (breaks(s, day) > 0) {
                    return day;
                }
            }
            return NONE;
        }
        if (net.net(s) < 0) {
            return what == 0 ? NONE : -1000000;
        }
        int below = 0;
        int least = Integer.MAX_VALUE;
        for (int day = 0; day < 40; day++) {
            below += onHand(s, day) < 0 ? 1 : 0;
            least = Math.min(least, onHand(s, day));
        }
        return what == 0 ? below : least;
    }

    int ask(int n) {
        good(n >= 0 && n <= 200 && n <= tape.length());
        String text = tape.substring(0, n);
        tape.setLength(0);
        try {
            int answer = new SlowReader(text).question(net);
            fault = NONE;
            return answer;
        } catch (Fault f) {
            fault = f.place;
            return -1000000000 - f.kind;
        }
    }

    int chain(int s, int k) {
        stageThere(s);
        List<Integer> chain = new ArrayList<>();
        chain.add(s);
        while (true) {
            int at = chain.get(chain.size() - 1);
            int ahead = NONE;
            for (int c : net.suppliers(at)) {
                ahead = ahead == NONE || net.longest(c) > net.longest(ahead) ? c : ahead;
            }
            if (ahead == NONE || net.longest(ahead) + net.stages.get(at).told[0] != net.longest(at)) {
                break;
            }
            chain.add(ahead);
        }
        there(k >= -1 && k < chain.size());
        return k == NONE ? chain.size() : chain.get(k);
    }

    int frontier(int k) {
        List<Integer> out = new ArrayList<>();
        long least = Long.MAX_VALUE;
        for (int p = 0; p <= 20; p++) {
            int v = even(p);
            if (v != NONE && v < least) {
                least = v;
                out.add(p);
            }
        }
        there(k >= -1 && k < out.size());
        return k == NONE ? out.size() : out.get(k);
    }

    void image() {
        image = net.copy();
    }

    boolean back() {
        if (image == null) {
            return false;
        }
        net = image.copy();
        undos.clear();
        return true;
    }
}
