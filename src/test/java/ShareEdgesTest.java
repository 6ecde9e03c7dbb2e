/** Each sentence of Terms 2, and of the promises that stand on it, that names an edge. */
public final class ShareEdgesTest extends Helpers {
    private static final int LARGEST = Integer.MAX_VALUE;
    private static final int LAST_MINUTE = 100000000;

    private ShareEdgesTest() {
    }

    public static void main(String[] args) {
        turnsAreOneToFifteenDays();
        turnsGoRound();
        ownersAreNoneToThirty();
        digAnswersNone();
        sharesAreSixtyOfAllChannels();
        sharesOutside();
        sellWithinTheShare();
        sellLeavesWhatIsAheadAndBehind();
        sellToTheOwner();
        sellUpToSixty();
        heirsAreTwoToFour();
        partsAreOneToHundred();
        heirsWhoDoNotCount();
        heirsRoundDown();
        heirsOfFewMinutes();
        heirsUpToSixty();
        lettingTimes();
        lettingToAnother();
        lettingAgain();
        whatIsLetStays();
        soldHasNoLetting();
        leftHasNoLetting();
        holderByLetting();
        lettingGoesRound();
        holderMinutes();
        minutesGoOn();
        countOfLet();
        whatsOfShares();
        Check.finish("ShareEdgesTest");
    }

    private static int dugFor(DesertChannels c, int owner, int days) {
        return c.dig(told(c, 0, 0, 0, 0, 0, 0), owner, days);
    }

    private static String allShares(DesertChannels c) {
        StringBuilder text = new StringBuilder();
        for (int i = 0; i < c.count(4); i++) {
            text.append(i > 0 ? " " : "").append(c.share(i, 1)).append('-').append(c.share(i, 2)).append('/')
                    .append(c.share(i, 3));
        }
        return text.toString();
    }

    private static void turnsAreOneToFifteenDays() {
        bounds("days", 1, 15, n -> dugFor(new DesertChannels(), 0, n));
        for (int days = 1; days <= 15; days++) {
            DesertChannels c = new DesertChannels();
            Check.same("the first share", dugFor(c, 3, days), 0);
            Check.same("the whole turn of " + days, shareText(c, 0), "0:0-" + 1440 * days + " of 3 0");
        }
        DesertChannels c = new DesertChannels();
        told(c, 0, 0, 0, 0, 0, 0);
        Check.refused("16 days", ARGUMENT, () -> c.dig(0, 0, 16));
        Check.same("is not dug", c.count(1) + " " + c.count(4) + " " + c.may(0), "0 0 true");
    }

    private static void turnsGoRound() {
        for (int days : new int[] {1, 2, 15}) {
            DesertChannels c = new DesertChannels();
            dugFor(c, 0, days);
            int turn = 1440 * days;
            c.sell(0, 0, 1, 1);
            c.sell(1, turn - 1, turn, 2);
            for (int begin : new int[] {0, turn, 7 * turn, LARGEST / turn * turn}) {
                Check.same("the first of a turn", c.holder(0, begin), 1);
                Check.same("the second", c.holder(0, begin + 1), 0);
                if (begin > 0) {
                    Check.same("the last of the one before", c.holder(0, begin - 1), 2);
                    Check.same("the last but one", c.holder(0, begin - 2), 0);
                }
            }
        }
    }

    private static void ownersAreNoneToThirty() {
        bounds("who digs", 0, 30, n -> dugFor(new DesertChannels(), n, 1));
        bounds("who buys", 0, 30, n -> withOneChannel().sell(0, 0, 1, n));
        bounds("heir a", 0, 30, n -> withOneChannel().heirs(0, 2, n, 1, 0, 1, 0, 0, 0, 0));
        bounds("heir b", 0, 30, n -> withOneChannel().heirs(0, 2, 0, 1, n, 1, 0, 0, 0, 0));
        bounds("heir c", 0, 30, n -> withOneChannel().heirs(0, 3, 0, 1, 0, 1, n, 1, 0, 0));
        bounds("heir d", 0, 30, n -> withOneChannel().heirs(0, 4, 0, 1, 0, 1, 0, 1, n, 1));
        bounds("whom it is let to", 1, 30, n -> withOneChannel().let(0, n, 0, 1));
        bounds("who pays", 0, 30, n -> withOneChannel().pays(0, n, 0));
    }

    private static void digAnswersNone() {
        DesertChannels c = new DesertChannels();
        told(c, 0, 0, 0);
        Check.refused("the owner is looked at ahead of the wells", ARGUMENT, () -> c.dig(0, 31, 1));
        Check.refused("and so are the days", ARGUMENT, () -> c.dig(0, 0, 0));
        Check.same("one well", c.dig(0, 0, 1), -1);
        c.well(0, 0, 0, 0);
        c.years(3);
        Check.same("dug in a later year", c.dig(0, 0, 1), 0);
        law(c, "distance 1;depth 1");
        told(c, 0, 0, 0, 9, 9, 0);
        Check.same("the law forbids it", c.dig(1, 0, 1), -1);
        Check.same("is not dug", c.holder(1, 0), -1);
        law(c, "distance 0");
        Check.same("the law allows it", c.dig(1, 7, 2), 1);
        Check.same("its owner is the later one's", shareText(c, 1), "1:0-2880 of 7 0");
    }

    private static void sharesAreSixtyOfAllChannels() {
        DesertChannels c = new DesertChannels();
        for (int i = 0; i < 7; i++) {
            Check.same("the first share of each", dugFor(c, i, 1), i);
        }
        told(c, 0, 0, 0, 0, 0, 0);
        for (int i = 7; i < 59; i++) {
            c.sell(i % 7, c.share(i % 7, 1) + 1, 1440, 8);
        }
        Check.same("59", c.count(4), 59);
        Check.same("the sixtieth", c.dig(7, 9, 1), 59);
        Check.same("its share", shareText(c, 59), "7:0-1440 of 9 0");
        Check.refused("no share 60", NO_SUCH, () -> c.share(60, 0));
        DesertChannels full = withShares(60);
        told(full, 0, 0, 0, 0, 0, 0);
        Check.same("a sixtyfirst: is not dug", full.dig(1, 0, 1), -1);
        Check.same("it may be still", full.may(1), true);
        Check.refused("its numbers are looked at first", ARGUMENT, () -> full.dig(1, 31, 1));
        Check.same("of channels dug", full.count(1), 1);
    }

    private static void sharesOutside() {
        DesertChannels none = new DesertChannels();
        Check.refused("no shares at first", NO_SUCH, () -> none.share(0, 0));
        for (int many : new int[] {1, 60}) {
            DesertChannels c = withShares(many);
            Check.taken("the last share", () -> c.share(many - 1, 0));
            for (int n : new int[] {-1, many, LARGEST, Integer.MIN_VALUE}) {
                Check.refused("sell " + n, NO_SUCH, () -> c.sell(n, 0, 1, 0));
                Check.refused("heirs " + n, NO_SUCH, () -> c.heirs(n, 2, 0, 1, 0, 1, 0, 0, 0, 0));
                Check.refused("let " + n, NO_SUCH, () -> c.let(n, 0, 0, 1));
                Check.refused("share " + n, NO_SUCH, () -> c.share(n, 0));
            }
        }
    }

    private static DesertChannels withPart() {
        DesertChannels c = withOneChannel();
        c.sell(0, 100, 200, 5);
        return c;
    }

    private static void sellWithinTheShare() {
        bounds("from", 100, 199, n -> withPart().sell(0, n, 200, 1));
        bounds("to", 101, 200, n -> withPart().sell(0, 100, n, 1));
        Check.refused("from as to", ARGUMENT, () -> withPart().sell(0, 150, 150, 1));
        Check.refused("from behind to", ARGUMENT, () -> withPart().sell(0, 151, 150, 1));
        Check.refused("nothing at its begin", ARGUMENT, () -> withPart().sell(0, 100, 100, 1));
        Check.refused("nothing at its end", ARGUMENT, () -> withPart().sell(0, 200, 200, 1));
        Check.refused("round the turn's end", ARGUMENT, () -> withOneChannel().sell(0, 1439, 1441, 1));
        Check.refused("of the next turn", ARGUMENT, () -> withOneChannel().sell(0, 1440, 1441, 1));
        Check.refused("of two shares", ARGUMENT, () -> withPart().sell(1, 99, 101, 1));
    }

    private static void sellLeavesWhatIsAheadAndBehind() {
        int[][] parts = {{100, 200}, {100, 199}, {101, 200}, {101, 199}, {100, 101}, {199, 200}, {150, 151}};
        String[] due = {"100-200/9 0-100/0 200-1440/0", "100-199/9 0-100/0 200-1440/0 199-200/5",
            "101-200/9 0-100/0 200-1440/0 100-101/5", "101-199/9 0-100/0 200-1440/0 100-101/5 199-200/5",
            "100-101/9 0-100/0 200-1440/0 101-200/5", "199-200/9 0-100/0 200-1440/0 100-199/5",
            "150-151/9 0-100/0 200-1440/0 100-150/5 151-200/5"};
        for (int i = 0; i < parts.length; i++) {
            DesertChannels c = withPart();
            c.sell(0, parts[i][0], parts[i][1], 9);
            Check.same("sold " + parts[i][0] + " to " + parts[i][1], allShares(c), due[i]);
        }
        DesertChannels c = new DesertChannels();
        dugFor(c, 1, 1);
        dugFor(c, 2, 1);
        c.sell(1, 10, 20, 3);
        Check.same("what is ahead is of its channel", shareText(c, 2), "1:0-10 of 2 0");
        Check.same("what is behind is too", shareText(c, 3), "1:20-1440 of 2 0");
        Check.same("the other channel's stays", shareText(c, 0), "0:0-1440 of 1 0");
    }

    private static void sellToTheOwner() {
        DesertChannels c = withPart();
        Check.taken("a part to the owner himself", () -> c.sell(0, 120, 130, 5));
        Check.same("is parted", allShares(c), "120-130/5 0-100/0 200-1440/0 100-120/5 130-200/5");
    }

    private static void sellUpToSixty() {
        Check.refused("of 59, ahead and behind", FULL, () -> withShares(59).sell(0, 1, 2, 1));
        Check.taken("of 59, ahead", () -> withShares(59).sell(0, 1, 1382, 1));
        Check.taken("of 59, behind", () -> withShares(59).sell(0, 0, 1, 1));
        Check.taken("of 58, ahead and behind", () -> withShares(58).sell(0, 1, 2, 1));
        Check.refused("of 60, ahead", FULL, () -> withShares(60).sell(0, 1, 1381, 1));
        Check.refused("of 60, behind", FULL, () -> withShares(60).sell(0, 0, 1380, 1));
        Check.taken("of 60, all of it", () -> withShares(60).sell(0, 0, 1381, 1));
        DesertChannels c = withShares(60);
        Check.refused("ahead", FULL, () -> c.sell(0, 1, 1381, 9));
        Check.refused("ahead and behind", FULL, () -> c.sell(0, 1, 1380, 9));
        Check.same("all stays", shareText(c, 0) + " " + c.count(4), "0:0-1381 of 1 0 60");
        Check.refused("numbers are looked at first", ARGUMENT, () -> c.sell(0, 1, 1380, 31));
        Check.refused("the part is looked at first", ARGUMENT, () -> c.sell(0, 1, 1382, 0));
    }

    private static void heirsAreTwoToFour() {
        bounds("many", 2, 4, n -> withOneChannel().heirs(0, n, 0, 1, 0, 1, 0, 1, 0, 1));
        String[] due = {"0-720/1 720-1440/2", "0-480/1 480-960/2 960-1440/3",
            "0-360/1 360-720/2 720-1080/3 1080-1440/4"};
        for (int many = 2; many <= 4; many++) {
            DesertChannels c = withOneChannel();
            Check.same("pieces", c.heirs(0, many, 1, 1, 2, 1, 3, 1, 4, 1), many);
            Check.same("heirs " + many, allShares(c), due[many - 2]);
        }
    }

    private static void partsAreOneToHundred() {
        bounds("part a", 1, 100, n -> withOneChannel().heirs(0, 2, 0, n, 0, 1, 0, 0, 0, 0));
        bounds("part b", 1, 100, n -> withOneChannel().heirs(0, 2, 0, 1, 0, n, 0, 0, 0, 0));
        bounds("part c", 1, 100, n -> withOneChannel().heirs(0, 3, 0, 1, 0, 1, 0, n, 0, 0));
        bounds("part d", 1, 100, n -> withOneChannel().heirs(0, 4, 0, 1, 0, 1, 0, 1, 0, n));
        DesertChannels c = new DesertChannels();
        dugFor(c, 0, 15);
        c.heirs(0, 4, 1, 100, 2, 100, 3, 100, 4, 100);
        Check.same("the longest by the largest", allShares(c), "0-5400/1 5400-10800/2 10800-16200/3 16200-21600/4");
    }

    private static void heirsWhoDoNotCount() {
        DesertChannels c = withOneChannel();
        Check.same("c and d of 2", c.heirs(0, 2, 1, 1, 2, 1, -1, 0, 31, 101), 2);
        Check.same("d of 3", c.heirs(0, 3, 1, 1, 2, 1, 3, 1, LARGEST, Integer.MIN_VALUE), 3);
        Check.same("nothing of theirs", allShares(c), "0-240/1 720-1440/2 240-480/2 480-720/3");
        Check.same("c and d could be heirs", left(101, 2, 1, 1, 1, 1), "2: 51/1 50/2");
        Check.same("d could be one", left(101, 3, 1, 1, 1, 100), "3: 34/1 34/2 33/3");
        DesertChannels fewer = withOneChannel();
        fewer.heirs(0, 4, 1, 1, 2, 1, 3, 1, 4, 1);
        Check.same("two behind four", fewer.heirs(0, 2, 5, 1, 6, 1, 7, 1, 8, 1), 2);
        Check.same("no third and fourth", allShares(fewer), "0-180/5 360-720/2 720-1080/3 1080-1440/4 180-360/6");
    }

    private static String left(int length, int many, int pa, int pb, int pc, int pd) {
        DesertChannels c = withOneChannel();
        c.sell(0, 0, length, 9);
        int first = c.count(4);
        int pieces = c.heirs(0, many, 1, pa, 2, pb, 3, pc, 4, pd);
        StringBuilder text = new StringBuilder().append(pieces).append(':');
        for (int i = 0; i < pieces; i++) {
            int share = i == 0 ? 0 : first + i - 1;
            text.append(' ').append(c.share(share, 2) - c.share(share, 1)).append('/').append(c.share(share, 3));
        }
        Check.same("shares", c.count(4), first + pieces - 1);
        return text.toString();
    }

    private static void heirsRoundDown() {
        Check.same("none left over", left(100, 2, 1, 1, 0, 0), "2: 50/1 50/2");
        Check.same("one left over", left(101, 2, 1, 1, 0, 0), "2: 51/1 50/2");
        Check.same("of three, one", left(100, 3, 1, 1, 1, 0), "3: 34/1 33/2 33/3");
        Check.same("of three, two", left(101, 3, 1, 1, 1, 0), "3: 34/1 34/2 33/3");
        Check.same("of four, three", left(7, 4, 1, 1, 1, 1), "4: 2/1 2/2 2/3 1/4");
        Check.same("by parts: 14, 28, 57, and one", left(100, 3, 1, 2, 4, 0), "3: 15/1 28/2 57/3");
        Check.same("to the first, not to the largest rest", left(10, 2, 2, 97, 0, 0), "2: 1/1 9/2");
        Check.same("a large part", left(1440, 2, 100, 1, 0, 0), "2: 1426/1 14/2");
    }

    private static void heirsOfFewMinutes() {
        Check.same("1 of 2", left(1, 2, 1, 1, 0, 0), "1: 1/1");
        Check.same("1 of 4", left(1, 4, 1, 100, 100, 100), "1: 1/1");
        Check.same("2 of 4", left(2, 4, 1, 1, 1, 1), "2: 1/1 1/2");
        Check.same("3 of 4", left(3, 4, 1, 1, 1, 1), "3: 1/1 1/2 1/3");
        Check.same("4 of 4", left(4, 4, 1, 1, 1, 1), "4: 1/1 1/2 1/3 1/4");
        Check.same("none for the second", left(2, 3, 1, 1, 100, 0), "2: 1/1 1/3");
        Check.same("none for the second and third", left(2, 4, 1, 1, 1, 100), "2: 1/1 1/4");
        Check.same("none for the last", left(2, 3, 100, 100, 1, 0), "2: 1/1 1/2");
        Check.same("the first part is the smallest", left(50, 2, 1, 100, 0, 0), "2: 1/1 49/2");
        Check.same("to the first alone", left(2, 2, 100, 1, 0, 0), "1: 2/1");
    }

    private static void heirsUpToSixty() {
        Check.refused("of 60, two pieces", FULL, () -> withShares(60).heirs(0, 2, 1, 1, 2, 1, 0, 0, 0, 0));
        Check.taken("of 60, one piece", () -> withShares(60).heirs(1, 2, 1, 1, 2, 1, 0, 0, 0, 0));
        Check.taken("of 59, two pieces", () -> withShares(59).heirs(0, 2, 1, 1, 2, 1, 0, 0, 0, 0));
        Check.refused("of 59, three pieces", FULL, () -> withShares(59).heirs(0, 3, 1, 1, 2, 1, 3, 1, 0, 0));
        Check.taken("of 57, four pieces", () -> withShares(57).heirs(0, 4, 1, 1, 2, 1, 3, 1, 4, 1));
        Check.refused("of 58, four pieces", FULL, () -> withShares(58).heirs(0, 4, 1, 1, 2, 1, 3, 1, 4, 1));
        DesertChannels c = withShares(59);
        c.sell(0, 0, 2, 9);
        Check.same("60", c.count(4), 60);
        Check.refused("2 minutes of four heirs", FULL, () -> c.heirs(0, 4, 1, 1, 2, 1, 3, 1, 4, 1));
        Check.same("stays", shareText(c, 0), "0:0-2 of 9 0");
        Check.same("2 minutes to one of two", c.heirs(0, 2, 7, 100, 2, 1, 0, 0, 0, 0), 1);
        Check.same("has another owner", shareText(c, 0), "0:0-2 of 7 0");
        Check.refused("parts are looked at first", ARGUMENT, () -> c.heirs(0, 2, 1, 1, 2, 101, 0, 0, 0, 0));
    }

    private static DesertChannels at(int now) {
        DesertChannels c = withOneChannel();
        c.minutes(now);
        return c;
    }

    private static void lettingTimes() {
        bounds("from at the begin of all time", 0, LAST_MINUTE - 1, n -> at(0).let(0, 1, n, LAST_MINUTE));
        bounds("from, now 50", 50, 99, n -> at(50).let(0, 1, n, 100));
        bounds("to, now 50", 71, LAST_MINUTE, n -> at(50).let(0, 1, 70, n));
        Check.refused("past", ARGUMENT, () -> at(50).let(0, 1, 10, 20));
        Check.refused("up to now", ARGUMENT, () -> at(50).let(0, 1, 49, 50));
        Check.refused("no time", ARGUMENT, () -> at(50).let(0, 1, 50, 50));
        Check.refused("turned round", ARGUMENT, () -> at(50).let(0, 1, 60, 55));
        DesertChannels c = withOneChannel();
        for (int i = 0; i < 505; i++) {
            c.minutes(100000);
        }
        Check.refused("just ahead of now", ARGUMENT, () -> c.let(0, 1, 50499999, LAST_MINUTE));
        Check.taken("from now on to the last", () -> c.let(0, 1, 50500000, LAST_MINUTE));
    }

    private static void lettingToAnother() {
        Check.refused("its owner", ARGUMENT, () -> withPart().let(0, 5, 0, 1));
        Check.taken("the one below", () -> withPart().let(0, 4, 0, 1));
        Check.taken("the one above", () -> withPart().let(0, 6, 0, 1));
        DesertChannels c = withPart();
        c.let(0, 0, 0, 10);
        Check.same("the owner stays", shareText(c, 0), "0:100-200 of 5 1");
        Check.same("one more share there is none", c.count(4), 3);
    }

    private static void lettingAgain() {
        DesertChannels c = withOneChannel();
        c.let(0, 1, 10, 20);
        Check.refused("let later", STATE, () -> c.let(0, 2, 20, 30));
        Check.refused("ahead of its numbers", STATE, () -> c.let(0, 0, 5, 5));
        c.minutes(10);
        Check.refused("let now", STATE, () -> c.let(0, 2, 20, 30));
        c.minutes(9);
        Check.refused("its last minute", STATE, () -> c.let(0, 2, 20, 30));
        c.minutes(1);
        Check.same("past", c.share(0, 4), 0);
        Check.taken("let again as it ends", () -> c.let(0, 2, 20, 30));
        Check.same("to the other", c.holder(0, 20) + " " + c.holder(0, 29) + " " + c.holder(0, 30), "2 2 0");
        c.minutes(11);
        Check.taken("past by more", () -> c.let(0, 1, 31, 32));
        Check.same("whom it is let to, of shares as they are now", c.holder(0, 25) + " " + c.holder(0, 31), "0 1");
    }

    private static void whatIsLetStays() {
        DesertChannels c = withOneChannel();
        c.let(0, 1, 1000, 1001);
        for (int now : new int[] {0, 999, 1000}) {
            c.minutes(now - c.count(3));
            Check.refused("sold at " + now, STATE, () -> c.sell(0, 0, 1440, 2));
            Check.refused("left at " + now, STATE, () -> c.heirs(0, 2, 1, 1, 2, 1, 0, 0, 0, 0));
            Check.refused("sold, ahead of its numbers", STATE, () -> c.sell(0, 5, 5, 31));
            Check.refused("left, ahead of its numbers", STATE, () -> c.heirs(0, 9, 31, 0, 2, 1, 0, 0, 0, 0));
            Check.same("stays", shareText(c, 0), "0:0-1440 of 0 1");
        }
        c.minutes(1);
        Check.taken("sold when it is past", () -> c.sell(0, 0, 1440, 2));
        DesertChannels full = withShares(60);
        full.let(0, 2, 0, 5);
        Check.refused("sold, ahead of there being 60", STATE, () -> full.sell(0, 1, 2, 2));
        Check.refused("left, ahead of there being 60", STATE, () -> full.heirs(0, 2, 1, 1, 2, 1, 0, 0, 0, 0));
        Check.taken("another share is sold", () -> full.sell(1, 1439, 1440, 2));
    }

    private static DesertChannels wasLet() {
        DesertChannels c = withOneChannel();
        c.let(0, 1, 10, 1000);
        c.minutes(1000);
        Check.same("a past letting counts for its minutes", c.holder(0, 9) + " " + c.holder(0, 10) + " "
                + c.holder(0, 999) + " " + c.holder(0, 1000), "0 1 1 0");
        return c;
    }

    private static void soldHasNoLetting() {
        DesertChannels c = wasLet();
        c.sell(0, 100, 200, 5);
        Check.same("the part", c.holder(0, 150), 5);
        Check.same("ahead, behind", c.holder(0, 50) + " " + c.holder(0, 500), "0 0");
        DesertChannels whole = wasLet();
        whole.sell(0, 0, 1440, 5);
        Check.same("all of it", whole.holder(0, 10) + " " + whole.holder(0, 999), "5 5");
        DesertChannels own = wasLet();
        own.sell(0, 0, 1440, 0);
        Check.same("to its owner", own.holder(0, 10), 0);
    }

    private static void leftHasNoLetting() {
        DesertChannels c = wasLet();
        c.heirs(0, 3, 5, 1, 6, 1, 7, 1, 0, 0);
        Check.same("each piece", c.holder(0, 10) + " " + c.holder(0, 480) + " " + c.holder(0, 960), "5 6 7");
        c.sell(0, 10, 11, 2);
        c.let(0, 8, 1000, 2000);
        c.minutes(1000);
        Check.same("let", c.holder(0, 1450), 8);
        Check.same("one piece", c.heirs(0, 2, 3, 1, 4, 1, 0, 0, 0, 0), 1);
        Check.same("has none any more", c.holder(0, 1450), 3);
    }

    private static void holderByLetting() {
        DesertChannels c = withPart();
        c.let(0, 7, 150, 160);
        int[][] rows = {{99, 0}, {100, 5}, {149, 5}, {150, 7}, {159, 7}, {160, 5}, {199, 5}, {200, 0}, {1590, 5},
            {1599, 5}};
        for (int[] row : rows) {
            Check.same("holder of " + row[0], c.holder(0, row[0]), row[1]);
        }
        c.minutes(155);
        Check.same("now does not count", c.holder(0, 150) + " " + c.holder(0, 159), "7 7");
        DesertChannels two = new DesertChannels();
        dugFor(two, 1, 1);
        dugFor(two, 2, 1);
        two.let(0, 3, 0, 10);
        Check.same("of the channel alone", two.holder(0, 5) + " " + two.holder(1, 5), "3 2");
    }

    private static void lettingGoesRound() {
        DesertChannels c = withPart();
        c.let(0, 7, 150, 1440 + 151);
        int[][] rows = {{149, 5}, {150, 7}, {199, 7}, {200, 0}, {1539, 0}, {1540, 7}, {1590, 7}, {1591, 5}, {2980, 5}};
        for (int[] row : rows) {
            Check.same("holder of " + row[0], c.holder(0, row[0]), row[1]);
        }
        DesertChannels last = withOneChannel();
        last.let(0, 7, LAST_MINUTE - 1, LAST_MINUTE);
        Check.same("the last that can be let", last.holder(0, LAST_MINUTE - 1), 7);
        Check.same("ahead of it", last.holder(0, LAST_MINUTE - 2), 0);
        Check.same("behind it", last.holder(0, LAST_MINUTE), 0);
    }

    private static void holderMinutes() {
        DesertChannels c = withOneChannel();
        told(c, 0, 0, 0, 0, 0, 0);
        for (int n : new int[] {0, LARGEST}) {
            Check.same("of one that is dug", c.holder(0, n), 0);
            Check.same("of one that is not", c.holder(1, n), -1);
        }
        for (int n : new int[] {-1, Integer.MIN_VALUE}) {
            Check.refused("minute " + n, ARGUMENT, () -> c.holder(0, n));
            Check.refused("minute " + n + " of one that is not dug", ARGUMENT, () -> c.holder(1, n));
            Check.refused("no channel is told first", NO_SUCH, () -> c.holder(2, n));
        }
        c.dig(1, 9, 1);
        Check.same("now it is dug", c.holder(1, 0), 9);
    }

    private static void minutesGoOn() {
        bounds("minutes", 0, 100000, n -> new DesertChannels().minutes(n));
        DesertChannels c = new DesertChannels();
        Check.same("0 at first", c.count(3), 0);
        Check.same("0 later", c.minutes(0), 0);
        for (int i = 0; i < 500; i++) {
            c.minutes(100000);
        }
        Check.same("far later", c.minutes(100000), 50100000);
    }

    private static void countOfLet() {
        DesertChannels c = withShares(60);
        Check.same("none", c.count(5), 0);
        for (int i = 0; i < 60; i++) {
            c.let(i, 2, i, i + 1);
            Check.same("let later counts", c.count(5), i + 1);
        }
        for (int i = 1; i <= 60; i++) {
            c.minutes(1);
            Check.same("past does not", c.count(5), 60 - i);
        }
    }

    private static void whatsOfShares() {
        DesertChannels c = new DesertChannels();
        told(c);
        dugFor(c, 30, 15);
        c.sell(0, 1, 21599, 0);
        int[] due = {1, 1, 21599, 0, 0};
        for (int what = 0; what <= 4; what++) {
            Check.same("what " + what, c.share(0, what), due[what]);
        }
        c.let(0, 1, 0, 1);
        Check.same("what 4, let", c.share(0, 4), 1);
        for (int n : new int[] {-1, 5, LARGEST, Integer.MIN_VALUE}) {
            Check.refused("what " + n, NO_WHAT, () -> c.share(0, n));
            Check.refused("no share is told first", NO_SUCH, () -> c.share(3, n));
        }
    }
}
