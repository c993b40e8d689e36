import java.util.Arrays;

/**
 * BEST once more, for NETWORKS that are too great for trying all PLANS: the cheapest PLAN of each part that hangs on a
 * STAGE, with all of its TIMES, so that like PRICES are told apart by the TIMES themselves.
 */
final class PartsBest {
    private static final int NONE = -1;
    private static final int TIMES = 120;

    /** PRICE and TIMES of some of the STAGES; the TIMES of all others are 0. */
    static final class Part {
        final int price;
        final int[] time;

        Part(int price, int[] time) {
            this.price = price;
            this.time = time;
        }
    }

    private final SlowModel.Net net;
    private final int size;
    private final int[][] rootBy;

    private PartsBest(SlowModel.Net net) {
        this.net = net;
        size = net.stages.size();
        rootBy = new int[size][TIMES];
        for (int s = 0; s < size; s++) {
            for (int n = 0; n < TIMES; n++) {
                rootBy[s][n] = net.root(s, n);
            }
        }
    }

    /** BEST; null: there is none. */
    static Part of(SlowModel.Net net) {
        PartsBest parts = new PartsBest(net);
        Part all = new Part(0, new int[parts.size]);
        for (int s = 0; s < parts.size; s++) {
            boolean first = true;
            for (int lesser = 0; lesser < s; lesser++) {
                first &= !net.together(s, lesser);
            }
            all = first ? both(all, least(parts.byTime(s, NONE), TIMES - 1)) : all;
        }
        return all;
    }

    private static Part both(Part a, Part b) {
        if (a == null || b == null) {
            return null;
        }
        int[] time = a.time.clone();
        for (int s = 0; s < time.length; s++) {
            time[s] += b.time[s];
        }
        return new Part(a.price + b.price, time);
    }

    private static Part better(Part a, Part b) {
        if (a == null || b == null) {
            return a == null ? b : a;
        }
        int how = a.price != b.price ? Integer.compare(a.price, b.price) : Arrays.compare(a.time, b.time);
        return how <= 0 ? a : b;
    }

    private static Part least(Part[] parts, int most) {
        Part found = null;
        for (int t = 0; t <= most; t++) {
            found = better(found, parts[t]);
        }
        return found;
    }

    private Part held(Part part, int s, int days) {
        return part == null ? null : new Part(part.price + net.stages.get(s).told[1] * rootBy[s][days], part.time);
    }

    /** What hangs on a STAGE but by its CUSTOMER 'without', by its own TIME. */
    private Part[] byTime(int s, int without) {
        Part[] own = own(s, without);
        Part[] just = suppliers(s, without, true);
        Part[] found = new Part[TIMES];
        int days = net.stages.get(s).told[0];
        for (int t = 0; t < TIMES; t++) {
            for (int w = Math.max(0, t - days); w + days < TIMES && own[t] != null; w++) {
                found[t] = better(found[t], held(both(own[t], just[w]), s, w + days - t));
            }
        }
        return found;
    }

    /** What hangs on a STAGE but by 'supplier', by the TIME of that one. */
    private Part[] bySupplier(int s, int supplier) {
        Part[] own = own(s, supplier);
        Part[] just = suppliers(s, supplier, true);
        Part[] noLater = suppliers(s, supplier, false);
        Part[] found = new Part[TIMES];
        int days = net.stages.get(s).told[0];
        for (int w = 0; w + days < TIMES; w++) {
            Part told = null;
            for (int t = 0; t <= w + days; t++) {
                told = better(told, held(own[t], s, w + days - t));
            }
            for (int t = 0; t <= w; t++) {
                found[t] = better(found[t], both(told, t == w ? noLater[w] : just[w]));
            }
        }
        return found;
    }

    /** A STAGE and its CUSTOMERS but 'without', by its own TIME. */
    private Part[] own(int s, int without) {
        int[] told = net.stages.get(s).told;
        Part[] found = new Part[TIMES];
        for (int t = 0; t < TIMES; t++) {
            if ((told[5] == NONE || t <= told[5]) && (told[6] == NONE || t == told[6])) {
                int[] time = new int[size];
                time[s] = t;
                found[t] = new Part(0, time);
            }
        }
        for (int c : net.customers(s)) {
            if (c != without) {
                Part[] more = bySupplier(c, s);
                for (int t = 0; t < TIMES; t++) {
                    found[t] = both(found[t], more[t]);
                }
            }
        }
        return found;
    }

    /** The suppliers of a STAGE but 'without', by its WAIT: OUTER and all TIMES are no later, and (just) one is that. */
    private Part[] suppliers(int s, int without, boolean just) {
        int outer = net.stages.get(s).told[2];
        Part[] found = new Part[TIMES];
        for (int w = outer; w < TIMES; w++) {
            found[w] = !just || w == outer ? new Part(0, new int[size]) : null;
        }
        Part[] ahead = new Part[TIMES];
        Arrays.fill(ahead, outer, TIMES, new Part(0, new int[size]));
        for (int i : net.suppliers(s)) {
            if (i != without) {
                Part[] more = byTime(i, s);
                for (int w = outer; w < TIMES; w++) {
                    Part justThen = just ? both(ahead[w], more[w]) : null;
                    found[w] = better(both(found[w], least(more, w)), justThen);
                    ahead[w] = both(ahead[w], least(more, w));
                }
            }
        }
        return found;
    }
}
