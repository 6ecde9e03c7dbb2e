/** Each sentence of Terms 3, of the tape, and of the promises that stand on them, that names an edge. */
public final class LawEdgesTest extends Helpers {
    private static final int BLANKS = 0x20202020;

    private LawEdgesTest() {
    }

    public static void main(String[] args) {
        tapeHoldsFourHundred();
        feedPutsTheHighestFirst();
        feedComesBehind();
        endKeepsTheFirst();
        lawAtFirst();
        numbersAndTheirBounds();
        digitsAreOneToFour();
        wordsGoOnAsLongAsLetters();
        onlyBlanksStandBetween();
        moreMustCome();
        whatCannotStandThere();
        signsNextToLettersAndDigits();
        fullTapes();
        whatIsNotToldStays();
        wrongTextChangesNothing();
        lawUsesTheTapeUp();
        faultOfTheLatest();
        saysZeroToThree();
        mayByDistance();
        mayByDepth();
        mayOfEachWellAndEachDug();
        costsAndWhoPays();
        paysByHours();
        paysByHeads();
        paysWhatIsNotFree();
        leftOverByNumbers();
        Check.finish("LawEdgesTest");
    }

    private static void right(String text, int terms, String due) {
        DesertChannels c = new DesertChannels();
        law(c, "distance 7;depth 8;repair heads;free 9");
        write(c, text);
        Check.taken("law '" + text + "'", () -> Check.same("terms of '" + text + "'", c.law(), terms));
        Check.same("'" + text + "' says", says(c), due);
        Check.same("no fault in '" + text + "'", c.fault(), -1);
        Check.same("the tape is used up", c.end(1), false);
    }

    private static int blanks(DesertChannels c) {
        return c.feed(BLANKS, BLANKS, BLANKS, BLANKS, BLANKS);
    }

    private static void tapeHoldsFourHundred() {
        DesertChannels c = new DesertChannels();
        for (int i = 1; i <= 20; i++) {
            Check.same("feed " + i, blanks(c), 20 * i);
        }
        Check.same("full", blanks(c), -1);
        for (int n : new int[] {400, 399, 390, 382, 381}) {
            Check.same("end " + n, c.end(n), true);
            Check.same("of " + n + " it would be more than 400", blanks(c), -1);
            Check.same("none come", c.end(n + 1), false);
        }
        Check.same("end 380", c.end(380), true);
        Check.same("just 400", blanks(c), 400);
        c.end(379);
        Check.same("399", blanks(c), 399);
        c.end(0);
        Check.same("empty again", blanks(c), 20);
    }

    private static void feedPutsTheHighestFirst() {
        String[] texts = {"free 17;depth 123   ", "distance 7;depth 8  "};
        for (String text : texts) {
            DesertChannels c = new DesertChannels();
            int[] n = new int[5];
            for (int i = 0; i < 20; i++) {
                n[i / 4] |= text.charAt(i) << (24 - 8 * (i % 4));
            }
            Check.same("twenty", c.feed(n[0], n[1], n[2], n[3], n[4]), 20);
            Check.same("two terms of '" + text + "'", c.law(), 2);
        }
        for (int at = 0; at < 20; at++) {
            int[] n = {BLANKS, BLANKS, BLANKS, BLANKS, BLANKS};
            n[at / 4] |= 0x80 << (24 - 8 * (at % 4));
            DesertChannels c = new DesertChannels();
            c.feed(n[0], n[1], n[2], n[3], n[4]);
            Check.refused("a byte of 160", ARGUMENT, () -> c.law());
            Check.same("byte " + at, c.fault(), at);
        }
        for (int n : new int[] {0, -1, Integer.MIN_VALUE, Integer.MAX_VALUE}) {
            DesertChannels c = new DesertChannels();
            Check.same("any number", c.feed(n, n, n, n, n), 20);
        }
    }

    private static void feedComesBehind() {
        DesertChannels c = new DesertChannels();
        write(c, "fr");
        writeBehind(c, 2, "ee 1");
        writeBehind(c, 6, "2");
        Check.same("one text", c.law(), 1);
        Check.same("free 12", c.says(3), 12);
        write(c, "free 55");
        c.end(6);
        writeBehind(c, 6, "6");
        Check.same("what was cut is gone", c.law() + " " + c.says(3), "1 56");
    }

    private static void endKeepsTheFirst() {
        DesertChannels c = new DesertChannels();
        Check.same("0 of an empty tape", c.end(0), true);
        Check.same("1 of an empty tape", c.end(1), false);
        write(c, "free 123");
        for (int n : new int[] {-1, 9, 400, 401, Integer.MAX_VALUE, Integer.MIN_VALUE}) {
            Check.same("end " + n, c.end(n), false);
        }
        Check.same("all of it", c.end(8), true);
        Check.same("again", c.end(8), true);
        Check.same("one less", c.end(7), true);
        Check.same("the eighth is gone", c.end(8), false);
        Check.same("the text", c.law() + " " + c.says(3), "1 12");
        write(c, "free 1");
        Check.same("end 0", c.end(0), true);
        Check.refused("an empty text", ARGUMENT, () -> c.law());
        Check.same("more must come at 0", c.fault(), 0);
    }

    private static void lawAtFirst() {
        DesertChannels c = new DesertChannels();
        Check.same("0, 0, hours, 0", says(c), "0 0 0 0");
        Check.same("no fault ahead of any", c.fault(), -1);
    }

    private static void numbersAndTheirBounds() {
        right("distance 0", 1, "0 8 1 9");
        right("distance 100", 1, "100 8 1 9");
        wrongAt("distance 101", 9);
        right("depth 0", 1, "7 0 1 9");
        right("depth 1000", 1, "7 1000 1 9");
        wrongAt("depth 1001", 6);
        right("free 0", 1, "7 8 1 0");
        right("free 100", 1, "7 8 1 100");
        wrongAt("free 101", 5);
        wrongAt("distance 1000", 9);
        wrongAt("free 9999", 5);
        wrongAt("depth 9999", 6);
        wrongAt("depth -1", 6);
        wrongAt("depth +1", 6);
    }

    private static void digitsAreOneToFour() {
        right("free 0000", 1, "7 8 1 0");
        right("free 0100", 1, "7 8 1 100");
        wrongAt("free 0101", 5);
        wrongAt("free 00000", 5);
        wrongAt("free 00001", 5);
        wrongAt("depth 01000", 6);
        wrongAt("depth 10000", 6);
        wrongAt("depth 99999999999999999999", 6);
        wrongAt("depth 4294967297", 6);
        right("depth 0999", 1, "7 999 1 9");
        wrongAt("free", 4);
        wrongAt("free ", 5);
        wrongAt("free 1 0", 7);
        right("distance1", 1, "1 8 1 9");
        right("depth1", 1, "7 1 1 9");
    }

    private static void wordsGoOnAsLongAsLetters() {
        wrongAt("freedom 1", 0);
        wrongAt("tree 1", 0);
        wrongAt("xistance 1", 0);
        wrongAt("xepth 1", 0);
        wrongAt("xepair hours", 0);
        wrongAt("repair xours", 7);
        wrongAt("repair xeads", 7);
        wrongAt("frex 1", 0);
        wrongAt("fre 1", 0);
        wrongAt("f", 0);
        wrongAt("distances 1", 0);
        wrongAt("distanc 1", 0);
        wrongAt("depths 1", 0);
        wrongAt("repairs hours", 0);
        wrongAt("repairhours", 0);
        wrongAt("repair hoursfree 1", 7);
        wrongAt("repair headsx", 7);
        wrongAt("repair head", 7);
        wrongAt("free 1;freefree 1", 7);
        wrongAt("free 1 ;  x", 10);
        wrongAt("fr ee 1", 0);
        wrongAt("FREE 1", 0);
        wrongAt("repair Hours", 7);
        right("repair heads", 1, "7 8 1 9");
        right("repair hours", 1, "7 8 0 9");
    }

    private static void onlyBlanksStandBetween() {
        right("     free     5     ;     repair     hours     ", 2, "7 8 0 5");
        right("free5;repair hours;distance6;depth7", 4, "6 7 0 5");
        for (int sign : new int[] {0, 9, 10, 13, 31, 33, 160, 255}) {
            wrongAt("free" + (char) sign + "5", 4);
            wrongAt((char) sign + "free 5", 0);
            wrongAt("free 5" + (char) sign, 6);
            wrongAt("free 5;" + (char) sign + "free 5", 7);
            wrongAt("repair" + (char) sign + "hours", 6);
        }
    }

    private static void moreMustCome() {
        wrongAt("", 0);
        wrongAt(" ", 1);
        wrongAt("distance", 8);
        wrongAt("depth  ", 7);
        wrongAt("repair", 6);
        wrongAt("repair   ", 9);
        wrongAt("free 1;", 7);
        wrongAt("free 1;  ", 9);
        wrongAt("free 1; free", 12);
    }

    private static void whatCannotStandThere() {
        wrongAt(";", 0);
        wrongAt(" ;free 1", 1);
        wrongAt("free;1", 4);
        wrongAt("free 1;;free 1", 7);
        wrongAt("free 1; ;free 1", 8);
        wrongAt("free 1,free 2", 6);
        wrongAt("free 1 free 2", 7);
        wrongAt("free 1 x", 7);
        wrongAt("free 1x", 6);
        wrongAt("1", 0);
        wrongAt("hours", 0);
        wrongAt("heads", 0);
        wrongAt("repair repair", 7);
        wrongAt("repair ;", 7);
        wrongAt("repair 5", 7);
        wrongAt("free free", 5);
        wrongAt("free hours", 5);
        wrongAt("repair hours 5", 13);
        wrongAt("repair hours5", 12);
        wrongAt("free 101;x", 5);
    }

    private static void signsNextToLettersAndDigits() {
        wrongAt("free" + (char) ('a' - 1), 4);
        wrongAt("free" + (char) ('z' + 1), 4);
        wrongAt("freea", 0);
        wrongAt("freez", 0);
        wrongAt("free 1" + (char) ('0' - 1), 6);
        wrongAt("free 1:", 6);
        wrongAt("free " + (char) ('9' + 1), 5);
        wrongAt("free /", 5);
        right("free 09", 1, "7 8 1 9");
        wrongAt("free 1" + (char) (';' + 1), 6);
    }

    private static void fullTapes() {
        StringBuilder most = new StringBuilder("free1");
        for (int i = 1; i < 66; i++) {
            most.append(";free").append(i % 10);
        }
        right(most + "     ", 66, "7 8 1 5");
        right(most + "     ".substring(1), 66, "7 8 1 5");
        wrongAt(most + "    x", 399);
        wrongAt(most + ";free", 400);
        wrongAt(most + ";    ", 400);
        wrongAt(most + ";fre1", 396);
        wrongAt(" ".repeat(400), 400);
        wrongAt("x".repeat(400), 0);
        wrongAt("free " + "1".repeat(395), 5);
        wrongAt(" ".repeat(399) + "1", 399);
        right(" ".repeat(394) + "free 7", 1, "7 8 1 7");
    }

    private static void whatIsNotToldStays() {
        DesertChannels c = new DesertChannels();
        law(c, "distance 1");
        Check.same("distance", says(c), "1 0 0 0");
        law(c, "depth 2");
        Check.same("depth", says(c), "1 2 0 0");
        law(c, "repair heads");
        Check.same("repair", says(c), "1 2 1 0");
        law(c, "free 3");
        Check.same("free", says(c), "1 2 1 3");
        Check.same("alike", law(c, "distance 5;distance 6;depth 7;depth 8;distance 9"), 5);
        Check.same("the later counts", says(c), "9 8 1 3");
        law(c, "repair heads;repair hours;free 0;free 10");
        Check.same("hours, and free 10", says(c), "9 8 0 10");
        law(c, "repair hours;repair heads;free 10;free 0");
        Check.same("heads, and free 0", says(c), "9 8 1 0");
    }

    private static void wrongTextChangesNothing() {
        wrongAt("distance 1;depth 2;repair hours;free 3;", 39);
        wrongAt("distance 1;depth 2;repair hours;free 101", 37);
        wrongAt("distance 1 1", 11);
        DesertChannels c = new DesertChannels();
        Check.refused("wrong", ARGUMENT, () -> law(c, "free 5;x"));
        Check.same("a law's draft does not go on", law(c, "depth 5") + " " + says(c), "1 0 5 0 0");
    }

    private static void lawUsesTheTapeUp() {
        DesertChannels c = new DesertChannels();
        law(c, "free 1");
        Check.same("used up", c.end(1), false);
        Check.refused("nothing is left", ARGUMENT, () -> c.law());
        Check.same("at 0", c.fault(), 0);
        Check.refused("wrong", ARGUMENT, () -> law(c, "free 1;x"));
        Check.same("used up as well", blanks(c), 20);
        Check.refused("twenty blanks alone", ARGUMENT, () -> c.law());
        Check.same("at 20", c.fault(), 20);
    }

    private static void faultOfTheLatest() {
        DesertChannels c = new DesertChannels();
        Check.refused("wrong", ARGUMENT, () -> law(c, "free x"));
        Check.same("5", c.fault(), 5);
        write(c, "free 1");
        Check.same("a new text is not read yet", c.fault() + " " + c.fault(), "5 5");
        c.law();
        Check.same("none", c.fault(), -1);
        Check.refused("wrong", ARGUMENT, () -> law(c, ""));
        Check.same("0 is not none", c.fault(), 0);
        Check.refused("wrong", ARGUMENT, () -> law(c, "depth 5;"));
        Check.same("the latest", c.fault(), 8);
    }

    private static void saysZeroToThree() {
        DesertChannels c = new DesertChannels();
        for (int n : new int[] {0, 3}) {
            Check.same("says " + n, c.says(n), 0);
        }
        for (int n : new int[] {-1, 4, Integer.MAX_VALUE, Integer.MIN_VALUE}) {
            Check.refused("says " + n, NO_WHAT, () -> c.says(n));
        }
    }

    /** Whether a channel with a well at that place and floor may be dug beside one with wells at (0, 0), floor 500. */
    private static boolean mayBeside(String text, int x, int y, int floor) {
        DesertChannels c = new DesertChannels();
        dug(c, 0, 0, 500, 0, 0, 500);
        law(c, text);
        int planned = told(c, x, y, floor, x, y, floor);
        boolean may = c.may(planned);
        Check.same("dig as may", c.dig(planned, 0, 1), may ? 1 : -1);
        return may;
    }

    private static void mayByDistance() {
        Check.same("distance 0, the same place", mayBeside("distance 0;depth 1000", 0, 0, 0), true);
        Check.same("distance 1, the same place", mayBeside("distance 1;depth 1000", 0, 0, 0), false);
        Check.same("distance 1, one step", mayBeside("distance 1;depth 1000", 1, 1, 0), true);
        Check.same("distance 10, 10 steps by x", mayBeside("distance 10;depth 1000", 10, 0, 0), true);
        Check.same("distance 10, 9 steps by x", mayBeside("distance 10;depth 1000", 9, 9, 0), false);
        Check.same("distance 10, 10 steps by y", mayBeside("distance 10;depth 1000", 9, 10, 0), true);
        Check.same("distance 10, 11 steps", mayBeside("distance 10;depth 1000", 11, 9, 0), true);
        Check.same("distance 100, 100 steps", mayBeside("distance 100;depth 1000", 100, 0, 0), true);
        Check.same("distance 100, 99 steps", mayBeside("distance 100;depth 1000", 99, 99, 0), false);
    }

    private static void mayByDepth() {
        Check.same("depth 0, as high", mayBeside("distance 1;depth 0", 0, 0, 500), true);
        Check.same("depth 0, lower", mayBeside("distance 1;depth 0", 0, 0, 499), false);
        Check.same("depth 100, just so", mayBeside("distance 1;depth 100", 0, 0, 600), true);
        Check.same("depth 100, one less", mayBeside("distance 1;depth 100", 0, 0, 599), false);
        Check.same("depth 100, one more", mayBeside("distance 1;depth 100", 0, 0, 601), true);
        Check.same("depth 100 below", mayBeside("distance 1;depth 100", 0, 0, 400), false);
        Check.same("depth 500, the highest floor", mayBeside("distance 1;depth 500", 0, 0, 1000), true);
        Check.same("depth 501, none is high enough", mayBeside("distance 1;depth 501", 0, 0, 1000), false);
        DesertChannels c = new DesertChannels();
        dug(c, 0, 0, 0, 0, 0, 0);
        law(c, "distance 100;depth 1000");
        Check.same("depth 1000", c.may(told(c, 0, 0, 1000, 99, 99, 1000)), true);
        Check.same("999", c.may(told(c, 0, 0, 999, 99, 99, 1000)), false);
    }

    private static void mayOfEachWellAndEachDug() {
        DesertChannels c = new DesertChannels();
        dug(c, 0, 0, 0, 50, 0, 500);
        law(c, "distance 10;depth 100");
        Check.same("one that is farther does not count", c.may(told(c, 5, 0, 100, 5, 5, 100)), true);
        Check.same("the far end counts for itself", c.may(told(c, 5, 0, 100, 45, 0, 599)), false);
        Check.same("each by its own way", c.may(told(c, 5, 0, 100, 45, 0, 600, 100, 0, 600)), true);
        Check.same("the first alone is too near", c.may(told(c, 5, 0, 99, 100, 0, 600)), false);
        Check.same("the last alone is too near", c.may(told(c, 100, 0, 0, 90, 0, 0, 9, 9, 0)), false);
        Check.same("no well but those told", mayAtTheCorner(), true);
        told(c, 90, 90, 0, 80, 80, 0);
        Check.same("those that are not dug do not count", c.may(told(c, 90, 90, 0, 80, 80, 0)), true);
        c.dig(6, 0, 1);
        Check.same("now one of them is", c.may(7), false);
        Check.same("above the nearer ones of all channels", nearTwo(400), true);
        Check.same("above one of them alone", nearTwo(399), false);
    }

    /** Far from the 2 and the 20 wells of two channels, at (0, 0) and as low as can be. */
    private static boolean mayAtTheCorner() {
        DesertChannels c = new DesertChannels();
        dug(c, 50, 50, 0, 50, 50, 0);
        int longest = c.channel();
        for (int w = 0; w < 20; w++) {
            c.well(longest, 70, 70, 0);
        }
        c.dig(longest, 0, 1);
        law(c, "distance 50;depth 1");
        return c.may(told(c, 0, 0, 0, 0, 0, 0));
    }

    /** A well nearer than 20 to wells of two channels, with floors of 100, collapsed, and 0, and a depth of 300. */
    private static boolean nearTwo(int floor) {
        DesertChannels c = new DesertChannels();
        dug(c, 0, 0, 100, 0, 0, 100);
        dug(c, 20, 20, 0, 20, 20, 0);
        law(c, "distance 20;depth 300");
        c.collapse(0, 0, true);
        return c.may(told(c, 10, 10, floor, 10, 10, floor));
    }

    private static void costsAndWhoPays() {
        bounds("costs", 0, 1000000, n -> withOneChannel().pays(0, 0, n));
        DesertChannels c = withOneChannel();
        Check.same("nothing", c.pays(0, 0, 0), 0);
        Check.same("one", c.pays(0, 0, 1), 1);
        Check.same("the most", c.pays(0, 0, 1000000), 1000000);
        Check.same("who has no share", c.pays(0, 1, 1000000) + " " + c.pays(0, 30, 1000000), "0 0");
        c.let(0, 1, 0, 1440);
        Check.same("whom it is let to", c.pays(0, 0, 5) + " " + c.pays(0, 1, 5), "5 0");
    }

    private static String paid(DesertChannels c, int costs, int... owners) {
        StringBuilder text = new StringBuilder();
        for (int one : owners) {
            text.append(text.length() > 0 ? " " : "").append(c.pays(0, one, costs));
        }
        return text.toString();
    }

    private static void paysByHours() {
        DesertChannels c = new DesertChannels();
        told(c, 0, 0, 0, 0, 0, 0);
        c.dig(0, 30, 15);
        c.sell(0, 0, 1, 0);
        Check.same("a minute of the longest turn", paid(c, 1000000, 0, 30), "47 999953");
        Check.same("just a unit each", paid(c, 21600, 0, 30), "1 21599");
        Check.same("less than a unit, left over to the first", paid(c, 21599, 0, 30), "1 21598");
        c.sell(1, 21599, 21600, 0);
        Check.same("two shares of one owner", paid(c, 21600, 0, 30), "2 21598");
        c.sell(2, 1, 21599, 0);
        Check.same("all are his", paid(c, 1000000, 0, 30), "1000000 0");
        DesertChannels two = withOneChannel();
        told(two, 0, 0, 0, 0, 0, 0);
        two.dig(1, 5, 1);
        Check.same("of the other channel nothing", paid(two, 100, 0, 5), "100 0");
    }

    private static void paysByHeads() {
        DesertChannels c = withOneChannel();
        c.sell(0, 0, 1, 7);
        c.sell(1, 1439, 1440, 3);
        law(c, "repair heads");
        Check.same("each alike", paid(c, 300, 0, 3, 7), "100 100 100");
        Check.same("one left over", paid(c, 301, 0, 3, 7), "101 100 100");
        Check.same("two left over", paid(c, 302, 0, 3, 7), "101 101 100");
        Check.same("fewer than heads", paid(c, 2, 0, 3, 7), "1 1 0");
        Check.same("one", paid(c, 1, 0, 3, 7), "1 0 0");
        Check.same("nothing", paid(c, 0, 0, 3, 7), "0 0 0");
        c.sell(0, 0, 1, 3);
        Check.same("two shares are one head", paid(c, 301, 0, 3, 7), "151 150 0");
    }

    private static void paysWhatIsNotFree() {
        int[][] rows = {{0, 1000000, 1000000}, {1, 99, 99}, {1, 100, 99}, {1, 199, 198}, {1, 200, 198}, {99, 1, 1},
            {99, 2, 1}, {99, 100, 1}, {99, 101, 2}, {100, 1, 0}, {100, 1000000, 0}, {50, 1, 1}, {50, 3, 2},
            {33, 10, 7}, {99, 1000000, 10000}};
        for (int[] row : rows) {
            DesertChannels c = withOneChannel();
            law(c, "free " + row[0]);
            Check.same("free " + row[0] + " of " + row[1], c.pays(0, 0, row[1]), row[2]);
            law(c, "repair heads");
            Check.same("by heads, free " + row[0] + " of " + row[1], c.pays(0, 0, row[1]), row[2]);
        }
    }

    /** Every owner there is has a share, and the higher his number, the earlier in the turn. */
    private static DesertChannels ofAllOwners() {
        DesertChannels c = withOneChannel();
        for (int owner = 30; owner > 0; owner--) {
            int share = c.count(4) - 1;
            c.sell(share, 30 - owner, 31 - owner, owner);
        }
        return c;
    }

    private static void leftOverByNumbers() {
        DesertChannels c = ofAllOwners();
        law(c, "repair heads");
        Check.same("30 of 31 heads", paid(c, 30, 0, 1, 29, 30), "1 1 1 0");
        Check.same("31 of 31 heads", paid(c, 31, 0, 29, 30), "1 1 1");
        Check.same("32 of 31 heads", paid(c, 32, 0, 1, 30), "2 1 1");
        Check.same("1 of 31 heads", paid(c, 1, 0, 1, 30), "1 0 0");
        law(c, "repair hours");
        // owner 0 has 1410 minutes of 1440, each of the others one
        Check.same("each by his minutes", paid(c, 1440, 0, 1, 30), "1410 1 1");
        Check.same("1409 and 30 left over, of 31", paid(c, 1439, 0, 1, 29, 30), "1410 1 1 0");
        leftOverToThoseWithShares();
        int sum = 0;
        for (int owner = 0; owner <= 30; owner++) {
            sum += c.pays(0, owner, 999999);
        }
        Check.same("all is paid", sum, 999999);
    }

    private static void leftOverToThoseWithShares() {
        DesertChannels c = new DesertChannels();
        told(c, 0, 0, 0, 0, 0, 0);
        c.dig(0, 5, 1);
        c.heirs(0, 3, 9, 1, 7, 1, 5, 1, 0, 0);
        for (String text : new String[] {"repair hours", "repair heads"}) {
            law(c, text);
            Check.same("one left over, " + text, paid(c, 100, 0, 4, 5, 6, 7, 8, 9, 10, 30), "0 0 34 0 33 0 33 0 0");
            Check.same("two left over, " + text, paid(c, 101, 0, 4, 5, 6, 7, 8, 9, 10, 30), "0 0 34 0 34 0 33 0 0");
        }
    }
}
