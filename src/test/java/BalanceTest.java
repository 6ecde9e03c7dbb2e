import java.util.Random;

/**
 * What must come out even behind any run, by the document's words alone, without a model. An object makes no more than
 * 512 calls here, for nothing is promised of those behind.
 */
public final class BalanceTest extends Helpers {
    private static final int RUNS = 2000;
    private static final int OWNERS = 31;

    private final Random random;
    private final String name;
    private final DesertChannels c = new DesertChannels();

    private BalanceTest(int run) {
        random = new Random(run);
        name = "run " + run + " ";
    }

    public static void main(String[] args) {
        for (int run = 0; run < RUNS; run++) {
            new BalanceTest(run).goForShares();
            new BalanceTest(run).goForCosts();
            new BalanceTest(run).goForWater();
            new BalanceTest(run).goForFields();
        }
        Check.finish("BalanceTest");
    }

    private int between(int least, int most) {
        return least + random.nextInt(most - least + 1);
    }

    private void goForShares() {
        int channels = between(1, 2);
        int[] turns = new int[channels];
        for (int i = 0; i < channels; i++) {
            turns[i] = 1440 * between(1, 15);
            c.dig(told(c, 0, 0, 0, 0, 0, 0), between(0, 30), turns[i] / 1440);
        }
        trade(between(0, 25));
        int shares = c.count(4);
        Check.same(name + "no more than 60", shares <= 60, true);
        for (int i = 0; i < channels; i++) {
            sharesFillTheTurn(i, turns[i], shares);
        }
    }

    /** Mostly small pieces, so that heirs find fewer minutes than they are. */
    private void trade(int times) {
        for (int i = 0; i < times; i++) {
            int share = random.nextInt(c.count(4));
            int from = c.share(share, 1);
            int to = c.share(share, 2);
            try {
                if (random.nextBoolean()) {
                    int begin = between(from, to - 1);
                    c.sell(share, begin, Math.min(to, begin + between(1, random.nextBoolean() ? 3 : 21600)), between(0, 30));
                } else {
                    c.heirs(share, between(2, 4), between(0, 30), between(1, 100), between(0, 30), between(1, 100),
                            between(0, 30), between(1, 100), between(0, 30), between(1, 100));
                }
            } catch (UnsupportedOperationException e) {
                Check.same(name + "refused near 60 only", c.count(4) > 56, true);
            }
        }
    }

    private void sharesFillTheTurn(int channel, int turn, int shares) {
        int[] has = new int[turn];
        for (int i = 0; i < shares; i++) {
            if (c.share(i, 0) == channel) {
                int from = c.share(i, 1);
                int to = c.share(i, 2);
                Check.same(name + "a share has minutes", from < to, true);
                for (int minute = from; minute < to && minute < turn; minute++) {
                    has[minute]++;
                }
                int owner = c.share(i, 3);
                Check.same(name + "its last minute", c.holder(channel, to - 1 + turn * between(0, 9)), owner);
            }
        }
        int once = 0;
        for (int many : has) {
            once += many == 1 ? 1 : 0;
        }
        Check.same(name + "each minute is in one share", once, turn);
    }

    private void goForCosts() {
        c.dig(told(c, 0, 0, 0, 0, 0, 0), between(0, 30), between(1, 15));
        trade(between(0, 20));
        int free = between(0, 100);
        law(c, (random.nextBoolean() ? "repair hours" : "repair heads") + ";free " + free);
        int costs = between(0, random.nextBoolean() ? 100 : 1000000);
        int paid = 0;
        for (int owner = 0; owner < OWNERS; owner++) {
            int part = c.pays(0, owner, costs);
            Check.same(name + "nobody is paid", part >= 0, true);
            paid += part;
        }
        Check.same(name + "all that is not free is paid", paid, costs - costs * (long) free / 100);
    }

    private void goForWater() {
        int[] alone = new int[8];
        int channels = between(1, 8);
        for (int i = 0; i < channels; i++) {
            int[] wells = someWells();
            DesertChannels other = new DesertChannels();
            alone[i] = other.flow(dug(other, wells));
            dug(c, wells);
            c.years(between(0, 3));
        }
        int sum = 0;
        for (int i = 0; i < channels; i++) {
            int flow = c.flow(i);
            int harm = c.harm(i);
            sum += flow;
            Check.same(name + "others take, and give nothing", 0 <= flow && flow <= alone[i] && harm >= 0, true);
            Check.same(name + "later ones take no more than all", flow + harm <= alone[i], true);
        }
        Check.same(name + "the first has no older one", c.flow(0) + c.harm(0), alone[0]);
        Check.same(name + "the last has no later one", c.harm(channels - 1), 0);
        Check.same(name + "flow of all", c.count(7), sum);
    }

    private int[] someWells() {
        int[] wells = new int[3 * between(2, 12)];
        int floor = between(0, 500);
        for (int i = 0; i < wells.length; i += 3) {
            wells[i] = between(0, 100);
            wells[i + 1] = between(0, 60);
            wells[i + 2] = floor;
            floor += random.nextInt(3) == 0 ? 0 : between(0, 30);
        }
        return wells;
    }

    /** An order by hand is never better than LEAST, and LEAST hangs on no order of telling. */
    private void goForFields() {
        int many = between(1, 9);
        int[][] told = new int[many][];
        for (int i = 0; i < many; i++) {
            told[i] = new int[] {between(1, 1000), between(0, random.nextBoolean() ? 10000 : 500), between(0, 100)};
        }
        int least = leastOf(told);
        for (int i = 0; i < 20; i++) {
            int a = random.nextInt(many);
            int[] swapped = told[a];
            told[a] = told[0];
            told[0] = swapped;
            Check.same(name + "least of all orders", least <= lossInOrder(told), true);
        }
        Check.same(name + "told in another order", leastOf(told), least);
    }

    private int leastOf(int[][] told) {
        for (int[] one : told) {
            c.field(one[0], one[1], one[2]);
        }
        return c.least();
    }

    private static int lossInOrder(int[][] told) {
        int done = 0;
        int loss = 0;
        for (int[] one : told) {
            done += one[0];
            loss += Math.max(0, done - one[1]) * one[2];
        }
        return loss;
    }
}
