/** Each sentence of Terms 1, and of the promises that stand on it, that names an edge. */
public final class WaterEdgesTest extends Helpers {
    private static final int LARGEST = Integer.MAX_VALUE;

    private WaterEdgesTest() {
    }

    public static void main(String[] args) {
        channelsAreEight();
        numbersOfWells();
        wellsAreTwoToTwenty();
        floorsDoNotFall();
        wellsComeToNoneThatIsDug();
        headAndSlope();
        yearsGoOn();
        wellsRun();
        collapseTellsWhetherItWasOtherwise();
        drawBySteps();
        drawByYears();
        drawOfTheNearestThatRuns();
        drawOfOthersAlone();
        tableBySlope();
        seepIsNoneToFifty();
        leaksByFall();
        leaksByHundredths();
        nothingLeaksAtTheMouth();
        flowOfWhatRuns();
        harmByOrder();
        flowOfAllThatAreDug();
        Check.finish("WaterEdgesTest");
    }

    /** The table tells itself in tens alone, so that the head is moved to see a draw to the unit. */
    private static void draws(String what, DesertChannels c, int channel, int well, int due) {
        c.ground(10 + due, 0);
        Check.same(what + ": draws not more than " + due, c.seep(channel, well), 1);
        c.ground(9 + due, 0);
        Check.same(what + ": draws not less than " + due, c.seep(channel, well), 0);
    }

    private static void channelsAreEight() {
        DesertChannels c = new DesertChannels();
        Check.refused("no channel 0 in a new object", NO_SUCH, () -> c.may(0));
        for (int i = 0; i < 8; i++) {
            int next = i + 1;
            Check.same("numbered from 0 on", c.channel(), i);
            Check.same("without wells, not dug", c.may(i), false);
            Check.refused("the next is none yet", NO_SUCH, () -> c.may(next));
        }
        Check.refused("a ninth", FULL, () -> c.channel());
        Check.refused("still there is no channel 8", NO_SUCH, () -> c.may(8));
        Check.same("eight", c.count(0), 8);
        for (int n : new int[] {-1, 8, LARGEST, Integer.MIN_VALUE}) {
            Check.refused("well of " + n, NO_SUCH, () -> c.well(n, 0, 0, 0));
            Check.refused("may " + n, NO_SUCH, () -> c.may(n));
            Check.refused("dig " + n, NO_SUCH, () -> c.dig(n, 0, 1));
            Check.refused("collapse " + n, NO_SUCH, () -> c.collapse(n, 0, true));
            Check.refused("flow " + n, NO_SUCH, () -> c.flow(n));
            Check.refused("harm " + n, NO_SUCH, () -> c.harm(n));
            Check.refused("seep " + n, NO_SUCH, () -> c.seep(n, 0));
            Check.refused("holder " + n, NO_SUCH, () -> c.holder(n, 0));
            Check.refused("pays " + n, NO_SUCH, () -> c.pays(n, 0, 0));
        }
        Check.same("the eighth takes wells", c.well(7, 0, 0, 0), 0);
        c.well(7, 0, 0, 0);
        Check.same("and is dug", c.dig(7, 0, 1), 0);
    }

    private static void numbersOfWells() {
        bounds("x", 0, 100, n -> told(new DesertChannels(), n, 0, 0));
        bounds("y", 0, 100, n -> told(new DesertChannels(), 0, n, 0));
        bounds("floor", 0, 1000, n -> told(new DesertChannels(), 0, 0, n));
        bounds("x of the second", 0, 100, n -> told(new DesertChannels(), 0, 0, 0, n, 0, 0));
        bounds("y of the second", 0, 100, n -> told(new DesertChannels(), 0, 0, 0, 0, n, 0));
        bounds("floor of the second", 0, 1000, n -> told(new DesertChannels(), 0, 0, 0, 0, 0, n));
    }

    private static void wellsAreTwoToTwenty() {
        DesertChannels c = new DesertChannels();
        c.channel();
        Check.same("none: may not", c.may(0), false);
        Check.same("none: is not dug", c.dig(0, 0, 1), -1);
        Check.same("the mouth is 0", c.well(0, 0, 0, 0), 0);
        Check.same("one: may not", c.may(0), false);
        Check.same("one: is not dug", c.dig(0, 0, 1), -1);
        Check.same("no share of what is not dug", c.count(4), 0);
        Check.same("it still takes wells", c.well(0, 0, 0, 0), 1);
        Check.same("two: may", c.may(0), true);
        for (int w = 2; w < 20; w++) {
            Check.same("one by one", c.well(0, 0, 0, 0), w);
        }
        Check.refused("a twentyfirst", FULL, () -> c.well(0, 0, 0, 0));
        Check.refused("there is no well 20", NO_SUCH, () -> c.seep(0, 20));
        Check.same("twenty: may", c.may(0), true);
        Check.same("twenty: is dug", c.dig(0, 0, 1), 0);
        Check.same("the twentieth seeps", c.seep(0, 19), 50);
        for (int n : new int[] {-1, 20, LARGEST, Integer.MIN_VALUE}) {
            Check.refused("seep of well " + n, NO_SUCH, () -> c.seep(0, n));
            Check.refused("collapse of well " + n, NO_SUCH, () -> c.collapse(0, n, true));
        }
        DesertChannels two = new DesertChannels();
        told(two, 0, 0, 0, 0, 0, 0);
        Check.same("just two are dug", two.dig(0, 0, 1), 0);
        Check.refused("there is no well 2", NO_SUCH, () -> two.seep(0, 2));
    }

    private static void floorsDoNotFall() {
        DesertChannels c = new DesertChannels();
        c.channel();
        c.well(0, 0, 0, 500);
        Check.refused("one lower", ARGUMENT, () -> c.well(0, 0, 0, 499));
        Check.same("as low", c.well(0, 0, 0, 500), 1);
        Check.refused("refused with a high floor", ARGUMENT, () -> c.well(0, 101, 0, 900));
        Check.same("which does not count", c.well(0, 0, 0, 501), 2);
        Check.refused("the one before counts, not the mouth", ARGUMENT, () -> c.well(0, 0, 0, 500));
        Check.same("the highest", c.well(0, 0, 0, 1000), 3);
        Check.refused("below the highest", ARGUMENT, () -> c.well(0, 0, 0, 999));
        Check.same("the highest again", c.well(0, 0, 0, 1000), 4);
        c.channel();
        Check.same("another channel begins anew", c.well(1, 0, 0, 0), 0);
    }

    private static void wellsComeToNoneThatIsDug() {
        DesertChannels c = new DesertChannels();
        told(c, 0, 0, 0, 0, 0, 0);
        c.dig(0, 0, 1);
        Check.refused("a well", STATE, () -> c.well(0, 0, 0, 0));
        Check.refused("ahead of its numbers", STATE, () -> c.well(0, 101, -1, 1001));
        Check.refused("none came", NO_SUCH, () -> c.seep(0, 2));
        Check.refused("may", STATE, () -> c.may(0));
        Check.refused("dig", STATE, () -> c.dig(0, 0, 1));
        Check.refused("dig ahead of its numbers", STATE, () -> c.dig(0, 31, 16));
        told(c, 0, 0, 0, 0, 0, 0);
        Check.refused("collapse of one not dug", STATE, () -> c.collapse(1, 0, true));
        Check.refused("flow of one not dug", STATE, () -> c.flow(1));
        Check.refused("harm of one not dug", STATE, () -> c.harm(1));
        Check.refused("seep of one not dug", STATE, () -> c.seep(1, 1));
        Check.refused("pays of one not dug", STATE, () -> c.pays(1, 0, 0));
    }

    private static void headAndSlope() {
        bounds("head", 0, 2000, n -> new DesertChannels().ground(n, 0));
        bounds("slope", 0, 20, n -> new DesertChannels().ground(0, n));
        DesertChannels c = new DesertChannels();
        dug(c, 0, 0, 300, 100, 0, 500);
        Check.same("head is 500 at first", c.seep(0, 0), 20);
        Check.same("slope is 2 at first", c.seep(0, 1), 20);
        Check.refused("wrong head, right slope", ARGUMENT, () -> c.ground(2001, 3));
        Check.refused("right head, wrong slope", ARGUMENT, () -> c.ground(400, 21));
        Check.same("head stays", c.seep(0, 0), 20);
        Check.same("slope stays", c.seep(0, 1), 20);
        c.ground(0, 20);
        Check.same("head 0", c.seep(0, 0), 0);
        Check.same("slope 20", c.seep(0, 1), 50);
        c.ground(2000, 0);
        Check.same("head 2000", c.seep(0, 0), 50);
    }

    private static void yearsGoOn() {
        bounds("years", 0, 100, n -> new DesertChannels().years(n));
        DesertChannels c = new DesertChannels();
        Check.same("0 at first", c.count(2), 0);
        Check.same("0 later", c.years(0), 0);
        for (int i = 1; i <= 500; i++) {
            c.years(100);
        }
        Check.same("far later", c.years(100), 50100);
    }

    private static String running(DesertChannels c) {
        StringBuilder text = new StringBuilder();
        for (int w = 0; w < 4; w++) {
            text.append(c.seep(0, w) == 50 ? "r" : c.seep(0, w) == 0 ? "-" : "?");
        }
        return text.toString();
    }

    private static void wellsRun() {
        DesertChannels c = new DesertChannels();
        dug(c, 0, 0, 0, 0, 0, 0, 0, 0, 0, 0, 0, 0);
        Check.same("all run", running(c), "rrrr");
        c.collapse(0, 3, true);
        Check.same("the farthest", running(c), "rrr-");
        c.collapse(0, 1, true);
        Check.same("all behind it", running(c), "r---");
        c.collapse(0, 3, false);
        Check.same("repaired behind one that lies", running(c), "r---");
        c.collapse(0, 0, true);
        Check.same("the mouth", running(c), "----");
        c.collapse(0, 1, false);
        Check.same("repaired behind the mouth", running(c), "----");
        c.collapse(0, 0, false);
        Check.same("all again", running(c), "rrrr");
    }

    private static void collapseTellsWhetherItWasOtherwise() {
        DesertChannels c = new DesertChannels();
        dug(c, 0, 0, 0, 0, 0, 0, 0, 0, 0);
        for (int w : new int[] {0, 2}) {
            Check.same("stands, repaired", c.collapse(0, w, false), false);
            Check.same("stands, collapses", c.collapse(0, w, true), true);
            Check.same("lies, collapses", c.collapse(0, w, true), false);
            Check.same("lies, repaired", c.collapse(0, w, false), true);
            Check.same("stands again", c.collapse(0, w, false), false);
        }
        c.collapse(0, 0, true);
        Check.same("what does not run has not collapsed", c.collapse(0, 1, true), true);
    }

    private static void drawBySteps() {
        int[][] places = {{0, 0, 30}, {1, 0, 29}, {28, 0, 2}, {29, 0, 1}, {30, 0, 0}, {31, 0, 0}, {100, 0, 0},
            {0, 1, 29}, {0, 29, 1}, {0, 30, 0}, {0, 31, 0}, {0, 100, 0}, {29, 29, 1}, {28, 29, 1}, {29, 28, 1},
            {30, 29, 0}, {29, 30, 0}, {20, 10, 10}, {10, 20, 10}, {15, 15, 15}, {100, 100, 0}};
        for (int[] p : places) {
            DesertChannels c = withOneChannel();
            dug(c, p[0], p[1], 0, 100, 100, 0);
            c.years(5);
            draws("from " + p[0] + " " + p[1], c, 0, 0, p[2]);
        }
        DesertChannels c = new DesertChannels();
        dug(c, 50, 50, 0, 50, 50, 0);
        dug(c, 21, 60, 0, 21, 60, 0);
        c.years(5);
        c.ground(11, 0);
        Check.same("29 steps to lower places: 1", c.seep(0, 0), 1);
        c.ground(10, 0);
        Check.same("not less", c.seep(0, 0), 0);
    }

    private static void drawByYears() {
        int[][] rows = {{7, 0, 4, 9, 13, 18, 23, 23, 23}, {29, 0, 0, 0, 0, 0, 1, 1, 1},
            {0, 0, 6, 12, 18, 24, 30, 30, 30}, {26, 0, 0, 1, 2, 3, 4, 4, 4}, {30, 0, 0, 0, 0, 0, 0, 0, 0}};
        for (int[] row : rows) {
            DesertChannels c = withOneChannel();
            c.years(3);
            dug(c, row[0], 0, 0, 100, 100, 0);
            for (int age = 0; age <= 7; age++) {
                draws(row[0] + " steps, age " + age, c, 0, 0, row[age + 1]);
                c.years(1);
            }
            c.years(100);
            draws(row[0] + " steps, age 108", c, 0, 0, row[8]);
        }
        DesertChannels c = withOneChannel();
        dug(c, 1, 0, 0, 1, 0, 0);
        dug(c, 2, 0, 0, 2, 0, 0);
        c.years(1);
        draws("each is rounded for itself: 29 and 28 fifths", c, 0, 0, 5 + 5);
    }

    private static void drawOfTheNearestThatRuns() {
        DesertChannels c = withOneChannel();
        dug(c, 20, 0, 0, 10, 0, 0, 5, 0, 0, 25, 0, 0);
        c.years(5);
        draws("all run: 5 steps", c, 0, 0, 25);
        c.collapse(1, 3, true);
        draws("the far one has collapsed", c, 0, 0, 25);
        c.collapse(1, 2, true);
        draws("10 steps", c, 0, 0, 20);
        c.collapse(1, 1, true);
        draws("20 steps", c, 0, 0, 10);
        c.collapse(1, 1, false);
        c.collapse(1, 0, true);
        draws("none runs", c, 0, 0, 0);
        c.collapse(1, 2, false);
        c.collapse(1, 0, false);
        draws("5 steps again", c, 0, 0, 25);
        c.collapse(0, 0, true);
        draws("the other is not drawn at by what has collapsed", c, 1, 0, 0);
    }

    private static void drawOfOthersAlone() {
        DesertChannels c = withOneChannel();
        c.years(5);
        draws("its own wells draw nothing", c, 0, 0, 0);
        for (int i = 1; i < 8; i++) {
            told(c, 0, 0, 0, 0, 0, 0);
            draws("one that is not dug", c, 0, 0, 30 * (i - 1));
            c.dig(i, 0, 1);
            draws("one dug this year", c, 0, 0, 30 * (i - 1));
            c.years(5);
            draws("one dug five years ago", c, 0, 0, 30 * i);
        }
        draws("the last is drawn at by the older ones", c, 7, 1, 210);
    }

    private static void tableBySlope() {
        DesertChannels c = new DesertChannels();
        dug(c, 0, 100, 0, 1, 0, 0, 99, 0, 0, 100, 0, 0);
        c.ground(5, 5);
        Check.same("x 0, whatever y is", c.seep(0, 0), 0);
        Check.same("x 1", c.seep(0, 1), 1);
        c.ground(4, 5);
        Check.same("x 1, not more than 5", c.seep(0, 1), 0);
        c.ground(1, 1);
        Check.same("x 99", c.seep(0, 2), 10);
        Check.same("x 100", c.seep(0, 3), 10);
        c.ground(0, 1);
        Check.same("x 99, not more", c.seep(0, 2), 9);
        Check.same("x 100, still", c.seep(0, 3), 10);
        DesertChannels high = new DesertChannels();
        dug(high, 100, 0, 1000, 100, 0, 1000);
        high.ground(0, 10);
        Check.same("1000 at a floor of 1000", high.seep(0, 0), 0);
        high.ground(10, 10);
        Check.same("1010", high.seep(0, 0), 1);
        high.ground(2000, 20);
        Check.same("the highest table", high.seep(0, 0), 50);
    }

    private static void seepIsNoneToFifty() {
        int[][] rows = {{0, 0}, {1, 0}, {489, 0}, {499, 0}, {500, 0}, {509, 0}, {510, 1}, {519, 1}, {520, 2}, {989, 48},
            {990, 49}, {999, 49}, {1000, 50}, {1009, 50}, {1010, 50}, {2000, 50}};
        DesertChannels c = new DesertChannels();
        dug(c, 0, 0, 500, 0, 0, 500);
        for (int[] row : rows) {
            c.ground(row[0], 0);
            Check.same("floor 500, table " + row[0], c.seep(0, 1), row[1]);
        }
        DesertChannels dry = withOneChannel();
        dug(dry, 0, 0, 0, 0, 0, 0);
        dry.years(5);
        dry.ground(0, 0);
        Check.same("a table of -30", dry.seep(0, 0), 0);
        Check.same("no flow below none", dry.flow(0), 0);
    }

    private static void leaksByFall() {
        int[][] rows = {{0, 99}, {1, 100}, {2, 100}, {19, 100}, {20, 100}, {21, 99}, {22, 99}, {1000, 99}};
        for (int[] row : rows) {
            DesertChannels c = new DesertChannels();
            c.ground(2000, 0);
            dug(c, 0, 0, 0, 0, 0, row[0]);
            Check.same("a fall of " + row[0], c.flow(0), row[1]);
        }
    }

    /** Ground 9 and 10: a well at x 10 + n with a floor of 100 to 109 has a seep of n. */
    private static DesertChannels leakingOnce(int goes) {
        DesertChannels c = new DesertChannels();
        c.ground(9, 10);
        c.channel();
        c.well(0, 10, 0, 100);
        int left = goes;
        for (int floor = 100; floor <= 109; floor++) {
            int seep = Math.min(50, left);
            c.well(0, 10 + seep, 0, floor);
            left -= seep;
        }
        c.dig(0, 0, 1);
        return c;
    }

    private static void leaksByHundredths() {
        int[][] rows = {{0, 0}, {1, 0}, {2, 1}, {50, 49}, {99, 98}, {100, 99}, {101, 99}, {102, 100}, {199, 197},
            {200, 198}, {201, 198}, {300, 297}, {301, 297}, {399, 395}, {400, 396}, {401, 396}, {500, 495}};
        for (int[] row : rows) {
            Check.same("of " + row[0] + " that go", leakingOnce(row[0]).flow(0), row[1]);
        }
    }

    private static void nothingLeaksAtTheMouth() {
        DesertChannels c = new DesertChannels();
        c.ground(2000, 0);
        dug(c, 0, 0, 0, 0, 0, 0, 0, 0, 0);
        Check.same("50 - 1, 99 - 1, 148", c.flow(0), 148);
        c.collapse(0, 2, true);
        Check.same("from the farthest that runs on", c.flow(0), 99);
        c.collapse(0, 1, true);
        Check.same("the mouth alone", c.flow(0), 50);
        c.collapse(0, 0, true);
        Check.same("none", c.flow(0), 0);
        DesertChannels high = new DesertChannels();
        high.ground(2000, 0);
        dug(high, 0, 0, 100, 0, 0, 110);
        Check.same("no fall behind the mouth", high.flow(0), 100);
    }

    private static void flowOfWhatRuns() {
        DesertChannels c = new DesertChannels();
        c.ground(100, 0);
        dug(c, 0, 0, 0, 0, 0, 95, 0, 0, 96);
        Check.same("wells without seep", c.flow(0), 10);
        c.collapse(0, 0, true);
        Check.same("the collapsed mouth brings none of its own", c.flow(0), 0);
        c.collapse(0, 0, false);
        Check.same("repaired", c.flow(0), 10);
    }

    private static void harmByOrder() {
        DesertChannels c = new DesertChannels();
        c.ground(300, 0);
        for (int i = 0; i < 4; i++) {
            told(c, 0, 0, 0, 0, 0, 1);
        }
        c.dig(3, 0, 1);
        c.dig(1, 0, 1);
        Check.same("dug this year: no draws", c.harm(3), 0);
        c.years(5);
        c.dig(0, 0, 1);
        Check.same("a later one of the same year", c.harm(3), 30 + 29 - 27 - 26);
        Check.same("none was later with draws", c.harm(1), 0);
        c.years(5);
        Check.same("two later ones", c.harm(3), 30 + 29 - 24 - 23);
        Check.same("one of them older", c.harm(1), 27 + 26 - 24 - 23);
        Check.same("the last", c.harm(0), 0);
        Check.same("it has the older ones' draws", c.flow(0), 24 + 23);
        c.collapse(0, 0, true);
        Check.same("a later one that has collapsed", c.harm(1), 0);
        c.collapse(1, 0, true);
        Check.same("both have", c.harm(3), 0);
        c.collapse(0, 0, false);
        Check.same("no well runs: no flow to be harmed", c.harm(1), 0);
        Check.same("the later one harms the first still", c.harm(3), 30 + 29 - 27 - 26);
        leaksCountInHarm();
    }

    private static void leaksCountInHarm() {
        DesertChannels c = new DesertChannels();
        c.ground(9, 10);
        dug(c, 60, 0, 100, 60, 0, 100, 60, 0, 101, 11, 0, 102);
        dug(c, 11, 0, 0, 11, 0, 0);
        c.years(5);
        // with 1 + 50 + 50 = 101 on the way 2 leak, without that 1 one leaks
        Check.same("flow", c.flow(0), 149);
        Check.same("1 less goes, 1 less leaks", c.harm(0), 0);
    }

    private static void flowOfAllThatAreDug() {
        DesertChannels c = new DesertChannels();
        Check.same("none", c.count(7), 0);
        told(c, 0, 0, 0, 0, 0, 1);
        Check.same("none is dug", c.count(7), 0);
        c.dig(0, 0, 1);
        Check.same("one", c.count(7), 99);
        dug(c, 100, 100, 0, 100, 100, 1);
        Check.same("two", c.count(7), 99 + 100);
        c.collapse(0, 1, true);
        Check.same("one well less", c.count(7), 50 + 100);
        c.collapse(0, 0, true);
        c.collapse(1, 0, true);
        Check.same("none runs", c.count(7), 0);
    }
}
