import java.util.ArrayList;
import java.util.Collections;
import java.util.List;
import java.util.Random;

/**
 * BEST of NETWORKS that are too great for trying all PLANS: all that is told of it must be what SlowModel tells, its
 * PRICE must not hang on how STAGES are numbered, PINS at its own TIMES must leave it as it is, and no lesser TIME may
 * do as well.
 */
public final class BestTest {
    private static final Checks CHECKS = new Checks();

    private final Random random;
    private final int stages;
    private final List<int[]> told = new ArrayList<>();
    private final List<int[]> supplies = new ArrayList<>();

    private BestTest(long seed) {
        random = new Random(seed);
        stages = 6 + random.nextInt(7);
        boolean cheap = random.nextBoolean();
        int shape = random.nextInt(3);
        for (int s = 0; s < stages; s++) {
            told.add(new int[] {random.nextInt(10), random.nextInt(cheap ? 4 : 1000), maybe(10, 0), random.nextInt(9),
                random.nextInt(cheap ? 5 : 10000), maybe(21, -1), random.nextInt(6) == 0 ? random.nextInt(12) : -1});
            if (s > 0 && random.nextInt(12) > 0) {
                int other = shape == 0 ? s - 1 : shape == 1 ? random.nextInt(s) : Math.max(0, s - 1 - random.nextInt(3));
                supplies.add(random.nextInt(shape == 0 ? 5 : 2) == 0 ? new int[] {s, other} : new int[] {other, s});
            }
        }
    }

    private int maybe(int n, int none) {
        return random.nextInt(3) == 0 ? random.nextInt(n) : none;
    }

    public static void main(String[] args) {
        for (int seed = 0; seed < 400; seed++) {
            CHECKS.part("network of seed " + seed);
            new BestTest(seed).check();
            new BestTest(seed).againstSlowModel();
        }
        CHECKS.end();
    }

    private PromisedStock made(List<Integer> number) {
        StringBuilder text = new StringBuilder();
        for (int s = 0; s < stages; s++) {
            text.append("stage ").append((char) ('a' + s)).append(" 0 0;");
        }
        PromisedStock x = Checks.of(text.toString());
        for (int s = 0; s < stages; s++) {
            for (int what = 0; what < 6; what++) {
                x.change(number.get(s), what, told.get(s)[what]);
            }
            x.pin(number.get(s), told.get(s)[6]);
        }
        for (int[] pair : supplies) {
            x.supply(number.get(pair[0]), number.get(pair[1]));
        }
        return x;
    }

    private SlowModel slow() {
        SlowModel slow = new SlowModel();
        for (int s = 0; s < stages; s++) {
            SlowModel.Stage stage = new SlowModel.Stage();
            stage.told = told.get(s).clone();
            slow.net().stages.add(stage);
        }
        slow.net().supplies.addAll(supplies);
        return slow;
    }

    private List<Integer> rising() {
        List<Integer> number = new ArrayList<>();
        for (int s = 0; s < stages; s++) {
            number.add(s);
        }
        return number;
    }

    private void againstSlowModel() {
        PromisedStock x = made(rising());
        SlowModel slow = slow();
        CHECKS.is("least", slow.least(), x.least());
        CHECKS.is("take", slow.take(2), x.take(2));
        for (int s = 0; s < stages; s++) {
            CHECKS.is("time " + s, slow.planned(s, 0), x.planned(s, 0));
        }
        for (int i = 0; i < 3; i++) {
            int s = random.nextInt(stages);
            int p = random.nextInt(21);
            int time = random.nextInt(40);
            CHECKS.is("worth of a day " + s, slow.worth(s, 0), x.worth(s, 0));
            CHECKS.is("worth of a promise " + s, slow.worth(s, 1), x.worth(s, 1));
            CHECKS.is("worth of a pin " + s, slow.worth(s, 2), x.worth(s, 2));
            CHECKS.is("pinned " + s + " " + time, slow.pinned(s, time), x.pinned(s, time));
            CHECKS.is("even " + p, slow.even(p), x.even(p));
        }
        CHECKS.is("frontier", slow.frontier(PromisedStock.NONE), x.frontier(PromisedStock.NONE));
    }

    private void check() {
        List<Integer> number = rising();
        PromisedStock first = made(number);
        int least = first.least();
        for (int i = 0; i < 4; i++) {
            List<Integer> other = new ArrayList<>(number);
            Collections.shuffle(other, random);
            CHECKS.is("least, numbered " + other, least, made(other).least());
        }
        CHECKS.is("take", least, first.take(2));
        if (least == PromisedStock.NONE) {
            return;
        }
        int[] times = new int[stages];
        for (int s = 0; s < stages; s++) {
            times[s] = first.planned(s, 0);
        }
        for (int s = 0; s < stages; s++) {
            // Another object for each STAGE: one object is asked no more than 512 times.
            PromisedStock x = made(number);
            // Only PLANS of the same lesser STAGES are looked at.
            for (int lesser = 0; lesser < s; lesser++) {
                x.pin(lesser, times[lesser]);
            }
            pinnedElsewhere(x, s, times[s], least);
        }
        for (int s = 0; s < stages; s++) {
            first.pin(s, times[s]);
        }
        CHECKS.is("all pinned", least, first.least());
    }

    private void pinnedElsewhere(PromisedStock x, int s, int time, int least) {
        for (int t = 0; t < 118 && told.get(s)[6] == PromisedStock.NONE; t++) {
            int price = x.pinned(s, t);
            boolean due = t == time ? price == least : price == PromisedStock.NONE || price >= least;
            boolean less = t < time && price == least;
            CHECKS.is("stage " + s + " pinned at " + t + ": " + price + ", least " + least, true, due && !less);
        }
    }
}
