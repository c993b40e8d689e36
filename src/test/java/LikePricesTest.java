import java.util.Arrays;
import java.util.Random;

/**
 * BEST where many PLANS are of like PRICE: of these it must be that of the least TIME of STAGE 0, then of 1, .. All
 * PLANS are tried. STAGES that can promise 0 alone stand among those that are looked at, so that these bear any numbers.
 */
public final class LikePricesTest {
    private static final int NONE = PromisedStock.NONE;
    private static final Checks CHECKS = new Checks();

    private final Random random;
    private final int size;
    private final int[] number;
    private final int[][] told;
    private final boolean[][] supplies;
    private final int[] order;
    private final int[] wait;
    private final int[] time;
    private final int[] best;
    private int least = NONE;
    private int likeOnes;

    private LikePricesTest(long seed) {
        random = new Random(seed);
        size = 2 + random.nextInt(4);
        number = numbers();
        told = new int[size][];
        supplies = new boolean[size][size];
        order = new int[size];
        wait = new int[size];
        time = new int[size];
        best = new int[size];
        int[] spreads = {0, 0, 1, 4, 9, 16};
        for (int s = 0; s < size; s++) {
            told[s] = new int[] {random.nextInt(3), random.nextInt(4), random.nextInt(4) == 0 ? 1 + random.nextInt(2) : 0, 0,
                spreads[random.nextInt(6)], random.nextInt(4) == 0 ? random.nextInt(4) : NONE,
                random.nextInt(4) == 0 ? random.nextInt(4) : NONE};
        }
        for (int s = 1; s < size; s++) {
            int other = random.nextInt(s);
            boolean up = random.nextBoolean();
            supplies[up ? s : other][up ? other : s] = true;
        }
        sortSuppliersAhead();
    }

    // Rising or not: both orders of what is looked at must be right.
    private int[] numbers() {
        int[] all = new int[12];
        for (int i = 0; i < 12; i++) {
            int at = random.nextInt(i + 1);
            all[i] = all[at];
            all[at] = i;
        }
        return Arrays.copyOf(all, size);
    }

    public static void main(String[] args) {
        int runs = args.length > 0 ? Integer.parseInt(args[0]) : 6000;
        int alike = 0;
        for (int seed = 0; seed < runs; seed++) {
            CHECKS.part("network of seed " + seed);
            LikePricesTest test = new LikePricesTest(seed);
            test.tryFrom(0, 0);
            test.check();
            alike += test.likeOnes > 1 ? 1 : 0;
        }
        CHECKS.is("most have PLANS of like PRICE", true, alike > runs / 3);
        CHECKS.end();
    }

    private void sortSuppliersAhead() {
        boolean[] sorted = new boolean[size];
        int next = 0;
        while (next < size) {
            for (int s = 0; s < size; s++) {
                boolean ready = !sorted[s];
                for (int other = 0; other < size; other++) {
                    ready = ready && (!supplies[other][s] || sorted[other]);
                }
                if (ready) {
                    order[next] = s;
                    next++;
                    sorted[s] = true;
                }
            }
        }
    }

    private int width(int s) {
        int together = told[s][4];
        for (int other = 0; other < size; other++) {
            together += supplies[s][other] ? width(other) : 0;
        }
        return together;
    }

    // With Z of 100 the ROOT by n is that of WIDTH times n.
    private int held(int s, int net) {
        int x = 0;
        while (x * x < width(s) * net) {
            x++;
        }
        return x;
    }

    private void tryFrom(int place, int price) {
        if (place == size) {
            look(price);
            return;
        }
        int s = order[place];
        wait[s] = told[s][2];
        for (int other = 0; other < size; other++) {
            wait[s] = supplies[other][s] ? Math.max(wait[s], time[other]) : wait[s];
        }
        for (int t = 0; t <= wait[s] + told[s][0]; t++) {
            boolean holds = (told[s][5] == NONE || t <= told[s][5]) && (told[s][6] == NONE || t == told[s][6]);
            if (holds) {
                time[s] = t;
                tryFrom(place + 1, price + told[s][1] * held(s, wait[s] + told[s][0] - t));
            }
        }
        time[s] = 0;
    }

    private void look(int price) {
        likeOnes = price == least ? likeOnes + 1 : least == NONE || price < least ? 1 : likeOnes;
        if (least == NONE || price < least || price == least && isLess()) {
            least = price;
            System.arraycopy(time, 0, best, 0, size);
        }
    }

    private boolean isLess() {
        for (int stage = 0; stage < 12; stage++) {
            for (int s = 0; s < size; s++) {
                if (number[s] == stage && time[s] != best[s]) {
                    return time[s] < best[s];
                }
            }
        }
        return false;
    }

    private void check() {
        StringBuilder text = new StringBuilder("z 100;");
        for (int s = 0; s < 12; s++) {
            text.append("stage ").append((char) ('a' + s)).append(" 0 9;");
        }
        PromisedStock x = Checks.of(text.toString());
        for (int s = 0; s < size; s++) {
            for (int what = 0; what < 6; what++) {
                x.change(number[s], what, told[s][what]);
            }
            x.pin(number[s], told[s][6]);
            for (int other = 0; other < size; other++) {
                if (supplies[s][other]) {
                    x.supply(number[s], number[other]);
                }
            }
        }
        CHECKS.is("least", least, x.least());
        CHECKS.is("take", least, x.take(2));
        for (int s = 0; s < size && least != NONE; s++) {
            CHECKS.is("stage " + number[s], best[s], x.planned(number[s], 0));
        }
    }
}
