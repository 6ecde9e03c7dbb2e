/** For each promise of the document ordinary calls, the edges that it names, and wrong ones. */
public final class PromiseTest extends Helpers {
    private PromiseTest() {
    }

    public static void main(String[] args) {
        promise1NewObject();
        promise2Feed();
        promise3End();
        promise4Ground();
        promise5Channel();
        promise6Well();
        promise7May();
        promise8Dig();
        promise9Years();
        promise10Collapse();
        promise11Flow();
        promise12Harm();
        promise13Seep();
        promise14Sell();
        promise15Heirs();
        promise16Let();
        promise17Minutes();
        promise18Holder();
        promise19Share();
        promise20Law();
        promise21Fault();
        promise22Says();
        promise23Pays();
        promise24Field();
        promise25Least();
        promise26Count();
        Check.finish("PromiseTest");
    }

    private static void promise1NewObject() {
        DesertChannels c = new DesertChannels();
        for (int what = 0; what <= 7; what++) {
            Check.same("new count " + what, c.count(what), 0);
        }
        for (int what = 0; what <= 3; what++) {
            Check.same("new law " + what, c.says(what), 0);
        }
        Check.same("new fault", c.fault(), DesertChannels.NONE);
        Check.same("NONE", DesertChannels.NONE, -1);
        Check.same("new tape", c.end(1), false);
        dug(c, 0, 0, 300, 50, 0, 300);
        Check.same("head 500", c.seep(0, 0), 20);
        Check.same("slope 2", c.seep(0, 1), 30);
    }

    private static void promise2Feed() {
        DesertChannels c = new DesertChannels();
        for (int i = 1; i <= 20; i++) {
            Check.same("feed " + i, c.feed(0, 0, 0, 0, 0), 20 * i);
        }
        Check.same("feed beyond 400", c.feed(0, 0, 0, 0, 0), -1);
        Check.same("400 stay", c.end(400), true);
        Check.same("no more than 400", c.end(401), false);
        c.end(381);
        Check.same("401 would be too many", c.feed(0, 0, 0, 0, 0), -1);
        Check.same("none came", c.end(382), false);
        c.end(380);
        Check.same("just 400", c.feed(0, 0, 0, 0, 0), 400);
        c.end(0);
        c.feed(0x66726565, 0x20313030, 0x3b646570, 0x74682039, 0x39392020);
        Check.same("highest byte first", c.law(), 2);
        Check.same("free 100", c.says(3), 100);
        Check.same("depth 999", c.says(1), 999);
        c.feed(-1, -1, -1, -1, -1);
        Check.refused("bytes of 255", ARGUMENT, () -> c.law());
        Check.same("first is wrong", c.fault(), 0);
    }

    private static void promise3End() {
        DesertChannels c = new DesertChannels();
        Check.same("end 0 of none", c.end(0), true);
        c.feed(0x66726565, 0x20353120, 0x20202020, 0x20202020, 0x20202020);
        Check.same("end below 0", c.end(-1), false);
        Check.same("end beyond", c.end(21), false);
        Check.same("all", c.end(20), true);
        Check.same("end 6", c.end(6), true);
        Check.same("seventh is gone", c.end(7), false);
        Check.same("law of what is left", c.law(), 1);
        Check.same("free 5", c.says(3), 5);
    }

    private static void promise4Ground() {
        DesertChannels c = new DesertChannels();
        dug(c, 10, 0, 0, 20, 0, 0);
        c.ground(100, 3);
        Check.same("seep at 10", c.seep(0, 0), 13);
        Check.same("seep at 20", c.seep(0, 1), 16);
        Check.refused("head -1", ARGUMENT, () -> c.ground(-1, 0));
        Check.refused("head 2001", ARGUMENT, () -> c.ground(2001, 0));
        Check.refused("slope -1", ARGUMENT, () -> c.ground(0, -1));
        Check.refused("slope 21", ARGUMENT, () -> c.ground(0, 21));
        Check.same("all stays", c.seep(0, 1), 16);
        c.ground(0, 20);
        Check.same("slope 20", c.seep(0, 0), 20);
        c.ground(2000, 0);
        Check.same("head 2000", c.seep(0, 0), 50);
        c.ground(0, 0);
        Check.same("no water", c.seep(0, 0), 0);
    }

    private static void promise5Channel() {
        DesertChannels c = new DesertChannels();
        for (int i = 0; i < 8; i++) {
            Check.same("channel", c.channel(), i);
        }
        Check.refused("ninth", FULL, () -> c.channel());
        Check.same("count", c.count(0), 8);
        Check.same("not dug", c.holder(7, 0), -1);
    }

    private static void promise6Well() {
        DesertChannels c = new DesertChannels();
        Check.refused("no channel", NO_SUCH, () -> c.well(0, -1, 0, 0));
        c.channel();
        Check.refused("channel -1", NO_SUCH, () -> c.well(-1, 0, 0, 0));
        Check.refused("x -1", ARGUMENT, () -> c.well(0, -1, 0, 0));
        Check.refused("x 101", ARGUMENT, () -> c.well(0, 101, 0, 0));
        Check.refused("y -1", ARGUMENT, () -> c.well(0, 0, -1, 0));
        Check.refused("y 101", ARGUMENT, () -> c.well(0, 0, 101, 0));
        Check.refused("floor -1", ARGUMENT, () -> c.well(0, 0, 0, -1));
        Check.refused("floor 1001", ARGUMENT, () -> c.well(0, 0, 0, 1001));
        Check.same("mouth", c.well(0, 100, 100, 990), 0);
        Check.refused("floor falls", ARGUMENT, () -> c.well(0, 0, 0, 989));
        for (int i = 1; i < 20; i++) {
            Check.same("well", c.well(0, 0, 0, 999), i);
        }
        Check.refused("twentyfirst", FULL, () -> c.well(0, 0, 0, 1000));
        Check.refused("argument first", ARGUMENT, () -> c.well(0, 0, 0, 998));
        c.dig(0, 0, 1);
        Check.refused("dug", STATE, () -> c.well(0, -1, 0, 0));
        c.channel();
        Check.same("another channel", c.well(1, 0, 0, 0), 0);
    }

    private static void promise7May() {
        DesertChannels c = new DesertChannels();
        Check.refused("no channel", NO_SUCH, () -> c.may(0));
        c.channel();
        Check.same("without wells", c.may(0), false);
        c.well(0, 50, 50, 100);
        Check.same("one well", c.may(0), false);
        c.well(0, 60, 50, 200);
        Check.same("two wells", c.may(0), true);
        c.dig(0, 0, 1);
        Check.refused("dug", STATE, () -> c.may(0));
        told(c, 60, 60, 199, 60, 61, 400);
        Check.same("law without distance", c.may(1), true);
        law(c, "distance 10");
        Check.same("just distance", c.may(1), true);
        law(c, "distance 11");
        Check.same("nearer, and depth 0, but lower", c.may(1), false);
        told(c, 60, 60, 200, 60, 65, 400);
        Check.same("nearer, and depth 0, as high", c.may(2), true);
        law(c, "depth 100");
        Check.same("not above the far one of the near ones", c.may(2), false);
        told(c, 50, 60, 200, 49, 60, 200);
        law(c, "distance 10");
        Check.same("just far", c.may(3), true);
        law(c, "distance 11");
        Check.same("nearer to both", c.may(3), false);
        told(c, 50, 60, 300, 49, 60, 300);
        Check.same("depth above both", c.may(4), true);
        law(c, "depth 101");
        Check.same("not depth above the higher", c.may(4), false);
        told(c, 39, 50, 0, 50, 40, 300);
        Check.same("each well counts", c.may(5), false);
        told(c, 0, 0, 0, 0, 0, 0);
        Check.same("undug ones do not count", c.may(6), true);
        c.collapse(0, 0, true);
        Check.same("collapsed ones do", c.may(4), false);
    }

    private static void promise8Dig() {
        DesertChannels c = new DesertChannels();
        Check.refused("no channel", NO_SUCH, () -> c.dig(0, 31, 0));
        told(c, 0, 0, 0);
        Check.refused("owner -1", ARGUMENT, () -> c.dig(0, -1, 1));
        Check.refused("owner 31", ARGUMENT, () -> c.dig(0, 31, 1));
        Check.refused("0 days", ARGUMENT, () -> c.dig(0, 0, 0));
        Check.refused("16 days", ARGUMENT, () -> c.dig(0, 0, 16));
        Check.same("one well", c.dig(0, 0, 1), -1);
        Check.same("no share", c.count(4), 0);
        c.well(0, 5, 5, 0);
        Check.same("dug", c.dig(0, 30, 15), 0);
        Check.same("its share", shareText(c, 0), "0:0-21600 of 30 0");
        Check.refused("dug", STATE, () -> c.dig(0, 31, 1));
        law(c, "distance 2;depth 1");
        told(c, 1, 0, 0, 100, 100, 0);
        Check.same("may not", c.dig(1, 0, 1), -1);
        Check.same("still one", c.count(1), 1);
        law(c, "distance 1");
        for (int i = 0; i < 59; i++) {
            c.sell(i, i, i + 1, 3);
            c.sell(i, i, i + 1, 3);
            if (i + 1 < 59) {
                Check.same("behind", c.share(i + 1, 1), i + 1);
            }
        }
        Check.same("60 shares", c.count(4), 60);
        Check.same("no share is left", c.dig(1, 0, 1), -1);
        Check.same("not dug", c.may(1), true);
    }

    private static void promise9Years() {
        DesertChannels c = new DesertChannels();
        Check.same("none later", c.years(0), 0);
        Check.same("100 later", c.years(100), 100);
        Check.same("3 later", c.years(3), 103);
        Check.refused("-1", ARGUMENT, () -> c.years(-1));
        Check.refused("101", ARGUMENT, () -> c.years(101));
        Check.same("count", c.count(2), 103);
    }

    private static void promise10Collapse() {
        DesertChannels c = new DesertChannels();
        Check.refused("no channel", NO_SUCH, () -> c.collapse(0, 0, true));
        told(c, 0, 0, 400, 0, 1, 410, 0, 2, 420);
        Check.refused("not dug", STATE, () -> c.collapse(0, 2, true));
        Check.refused("no well, not dug", NO_SUCH, () -> c.collapse(0, 3, true));
        c.dig(0, 0, 1);
        Check.refused("well -1", NO_SUCH, () -> c.collapse(0, -1, true));
        Check.refused("well 3", NO_SUCH, () -> c.collapse(0, 3, true));
        Check.same("stands", c.collapse(0, 1, false), false);
        Check.same("falls", c.collapse(0, 1, true), true);
        Check.same("lies", c.collapse(0, 1, true), false);
        Check.same("ahead of it runs", c.seep(0, 0), 10);
        Check.same("behind it not", c.seep(0, 2), 0);
        Check.same("flow", c.flow(0), 10);
        Check.same("another", c.collapse(0, 2, true), true);
        Check.same("repaired", c.collapse(0, 1, false), true);
        Check.same("it runs", c.flow(0), 19);
        Check.same("repaired", c.collapse(0, 2, false), true);
        Check.same("all run", c.flow(0), 27);
    }

    private static void promise11Flow() {
        DesertChannels c = new DesertChannels();
        c.ground(1000, 0);
        Check.refused("no channel", NO_SUCH, () -> c.flow(0));
        told(c, 0, 0, 500, 1, 0, 501, 2, 0, 521, 3, 0, 542, 4, 0, 542);
        Check.refused("not dug", STATE, () -> c.flow(0));
        c.dig(0, 0, 1);
        // 45, less 1; +45 = 89, less 1; +47 = 135; +49 = 184; +50
        Check.same("falls of 0 and 21 leak, of 1 and 20 not", c.flow(0), 234);
        int flat = dug(c, 90, 90, 700, 90, 90, 700, 90, 90, 700, 90, 90, 700, 90, 90, 700);
        // 30-1, 59-1, 88-1, 117-2, 145
        Check.same("a hundredth rounded up", c.flow(flat), 145);
        int dry = dug(c, 50, 90, 999, 50, 90, 1000);
        Check.same("nothing leaks of nothing", c.flow(dry), 0);
        int even = dug(c, 0, 90, 490, 0, 90, 490, 0, 90, 491);
        Check.same("of 100 leaks 1", c.flow(even), 50 + 50 - 1 + 50);
        int drop = dug(c, 0, 50, 985, 0, 50, 985);
        Check.same("of 1 leaks 1", c.flow(drop), 1 - 1 + 1);
        mostOfAll();
        c.collapse(0, 0, true);
        Check.same("collapsed mouth", c.flow(0), 0);
        drawnFlow();
    }

    private static void mostOfAll() {
        DesertChannels c = new DesertChannels();
        c.ground(2000, 20);
        for (int i = 0; i < 8; i++) {
            c.channel();
            for (int w = 0; w < 20; w++) {
                c.well(i, 0, 0, w);
            }
            c.dig(i, i, 1);
        }
        c.years(100);
        Check.same("8 channels of 20 wells", c.count(7), 8 * 20 * 50);
        Check.same("no harm where water is enough", c.harm(0), 0);
    }

    private static void drawnFlow() {
        DesertChannels c = new DesertChannels();
        c.ground(300, 0);
        dug(c, 0, 0, 0, 0, 40, 1);
        dug(c, 7, 0, 0, 60, 0, 1);
        int[] grown = {30, 29, 29, 28, 28, 27, 27};
        for (int y = 0; y < grown.length; y++) {
            Check.same("23 drawn at the age of " + y, c.seep(0, 0), grown[y]);
            c.years(1);
        }
        Check.same("flow", c.flow(0), 27 + 29 - 1 + 1);
        dug(c, 0, 7, 0, 0, 7, 1);
        c.years(1);
        Check.same("age counts from the digging: 4 of 23", c.seep(0, 0), 27);
        c.years(1);
        Check.same("9 of 23", c.seep(0, 0), 26);
        DesertChannels d = new DesertChannels();
        d.ground(300, 0);
        dug(d, 50, 50, 0, 50, 50, 1);
        dug(d, 20, 50, 0, 50, 79, 1);
        d.years(10);
        Check.same("29 steps still draw 1", d.seep(0, 0), 29);
        d.collapse(1, 1, true);
        Check.same("30 steps draw nothing", d.seep(0, 0), 30);
        dug(d, 45, 40, 0, 0, 0, 0);
        d.years(5);
        Check.same("king's steps: 10", d.seep(0, 0), 28);
        dug(d, 41, 51, 0, 0, 0, 0);
        d.years(5);
        Check.same("20 and 21", d.seep(0, 0), 25);
        d.collapse(2, 0, true);
        Check.same("21 alone: nothing runs in the other", d.seep(0, 0), 27);
    }

    private static void promise12Harm() {
        DesertChannels c = new DesertChannels();
        c.ground(300, 0);
        Check.refused("no channel", NO_SUCH, () -> c.harm(0));
        told(c, 0, 0, 0, 0, 40, 1);
        told(c, 0, 10, 0, 0, 90, 1);
        told(c, 10, 0, 0, 90, 0, 1);
        Check.refused("not dug", STATE, () -> c.harm(0));
        c.dig(2, 0, 1);
        c.dig(0, 0, 1);
        c.dig(1, 0, 1);
        Check.same("in the first year", c.harm(0), 0);
        c.years(5);
        Check.same("flow of the first", c.flow(2), 30 - 4 + 29);
        Check.same("both are later", c.harm(2), 4);
        Check.same("flow of the second", c.flow(0), 30 - 4 + 29);
        Check.same("one is later", c.harm(0), 2);
        Check.same("none is later", c.harm(1), 0);
        c.collapse(1, 0, true);
        Check.same("the later one has collapsed", c.harm(0), 0);
    }

    private static void promise13Seep() {
        DesertChannels c = new DesertChannels();
        Check.refused("no channel", NO_SUCH, () -> c.seep(0, 0));
        told(c, 0, 0, 9, 0, 0, 10, 0, 0, 501, 0, 0, 1000);
        Check.refused("no well, not dug", NO_SUCH, () -> c.seep(0, 4));
        Check.refused("not dug", STATE, () -> c.seep(0, 0));
        c.dig(0, 0, 1);
        Check.refused("well -1", NO_SUCH, () -> c.seep(0, -1));
        Check.refused("well 4", NO_SUCH, () -> c.seep(0, 4));
        Check.same("rounded down", c.seep(0, 0), 49);
        Check.same("dry", c.seep(0, 2), 0);
        Check.same("far below", c.seep(0, 3), 0);
        c.ground(519, 0);
        Check.same("50 at most", c.seep(0, 0), 50);
        Check.same("rounded down", c.seep(0, 2), 1);
        c.collapse(0, 2, true);
        Check.same("collapsed", c.seep(0, 2), 0);
        Check.same("ahead of it", c.seep(0, 1), 50);
    }

    private static void promise14Sell() {
        DesertChannels c = new DesertChannels();
        Check.refused("no share", NO_SUCH, () -> c.sell(0, 5, 5, 31));
        dug(c, 0, 0, 0, 0, 0, 0);
        c.sell(0, 0, 1440, 5);
        Check.same("all", shareText(c, 0), "0:0-1440 of 5 0");
        c.sell(0, 0, 440, 6);
        Check.same("the first part", shareText(c, 0), "0:0-440 of 6 0");
        Check.same("behind", shareText(c, 1), "0:440-1440 of 5 0");
        c.sell(1, 1000, 1440, 7);
        Check.same("the last part", shareText(c, 1), "0:1000-1440 of 7 0");
        Check.same("ahead", shareText(c, 2), "0:440-1000 of 5 0");
        c.sell(2, 500, 600, 5);
        Check.same("part of the middle", shareText(c, 2), "0:500-600 of 5 0");
        Check.same("ahead comes first", shareText(c, 3), "0:440-500 of 5 0");
        Check.same("then behind", shareText(c, 4), "0:600-1000 of 5 0");
        Check.same("five", c.count(4), 5);
        Check.refused("share 5", NO_SUCH, () -> c.sell(5, 0, 1, 0));
        Check.refused("share -1", NO_SUCH, () -> c.sell(-1, 0, 1, 0));
        Check.refused("ahead of it", ARGUMENT, () -> c.sell(2, 499, 600, 5));
        Check.refused("behind it", ARGUMENT, () -> c.sell(2, 500, 601, 5));
        Check.refused("nothing", ARGUMENT, () -> c.sell(2, 550, 550, 5));
        Check.refused("turned round", ARGUMENT, () -> c.sell(2, 560, 550, 5));
        Check.refused("owner -1", ARGUMENT, () -> c.sell(2, 550, 560, -1));
        Check.refused("owner 31", ARGUMENT, () -> c.sell(2, 550, 560, 31));
        c.let(2, 9, 10, 20);
        Check.refused("will be let", STATE, () -> c.sell(2, 550, 550, 31));
        c.minutes(19);
        Check.refused("is let", STATE, () -> c.sell(2, 550, 560, 1));
        c.minutes(1);
        Check.same("was let", c.holder(0, 15) + " " + c.holder(0, 1440 * 50 + 555), "6 5");
        c.sell(2, 550, 560, 1);
        Check.same("sold", shareText(c, 2), "0:550-560 of 1 0");
        sellToSixty();
    }

    private static void sellToSixty() {
        DesertChannels c = new DesertChannels();
        dug(c, 0, 0, 0, 0, 0, 0);
        for (int i = 1; i < 59; i++) {
            c.sell(0, 0, 1440 - i, 1);
        }
        Check.same("59 shares", c.count(4), 59);
        Check.refused("61 would be", FULL, () -> c.sell(0, 1, 2, 1));
        Check.refused("argument first", ARGUMENT, () -> c.sell(0, 2, 2, 1));
        Check.same("all stays", shareText(c, 0), "0:0-1382 of 1 0");
        c.sell(0, 1380, 1382, 1);
        Check.same("60 shares", c.count(4), 60);
        Check.same("ahead of it", shareText(c, 59), "0:0-1380 of 1 0");
        Check.same("none of 60 is let", c.count(5), 0);
        Check.same("the last minute", c.holder(0, 1439), 0);
        Check.refused("61 would be", FULL, () -> c.sell(0, 1380, 1381, 1));
        Check.refused("61 would be", FULL, () -> c.sell(0, 1381, 1382, 1));
        c.sell(0, 1380, 1382, 2);
        Check.same("no new one", shareText(c, 0), "0:1380-1382 of 2 0");
    }

    private static void promise15Heirs() {
        DesertChannels c = new DesertChannels();
        Check.refused("no share", NO_SUCH, () -> c.heirs(0, 1, 0, 1, 0, 1, 0, 1, 0, 1));
        dug(c, 0, 0, 0, 0, 0, 0);
        Check.refused("one", ARGUMENT, () -> c.heirs(0, 1, 0, 1, 0, 1, 0, 1, 0, 1));
        Check.refused("five", ARGUMENT, () -> c.heirs(0, 5, 0, 1, 0, 1, 0, 1, 0, 1));
        Check.refused("owner a", ARGUMENT, () -> c.heirs(0, 2, 31, 1, 0, 1, 0, 1, 0, 1));
        Check.refused("owner b", ARGUMENT, () -> c.heirs(0, 2, 0, 1, -1, 1, 0, 1, 0, 1));
        Check.refused("owner c", ARGUMENT, () -> c.heirs(0, 3, 0, 1, 0, 1, 31, 1, 0, 1));
        Check.refused("owner d", ARGUMENT, () -> c.heirs(0, 4, 0, 1, 0, 1, 0, 1, 31, 1));
        Check.refused("part a", ARGUMENT, () -> c.heirs(0, 2, 0, 0, 0, 1, 0, 1, 0, 1));
        Check.refused("part b", ARGUMENT, () -> c.heirs(0, 2, 0, 1, 0, 101, 0, 1, 0, 1));
        Check.refused("part c", ARGUMENT, () -> c.heirs(0, 3, 0, 1, 0, 1, 0, 101, 0, 1));
        Check.refused("part d", ARGUMENT, () -> c.heirs(0, 4, 0, 1, 0, 1, 0, 1, 0, 0));
        c.sell(0, 100, 107, 30);
        Check.same("what does not count is free", c.heirs(0, 2, 3, 100, 4, 50, -1, -1, 99, 999), 2);
        Check.same("4 and one left over", shareText(c, 0), "0:100-105 of 3 0");
        Check.same("2", shareText(c, 3), "0:105-107 of 4 0");
        Check.same("four", c.heirs(0, 4, 5, 1, 6, 1, 7, 1, 8, 1), 4);
        Check.same("1 and 1", shareText(c, 0), "0:100-102 of 5 0");
        Check.same("1", shareText(c, 6), "0:104-105 of 8 0");
        Check.same("of 2, as 100 to 1 to 1: 1 and 0 and 0", c.heirs(0, 3, 1, 1, 2, 1, 3, 100, 0, 0), 2);
        Check.same("first", shareText(c, 0), "0:100-101 of 1 0");
        Check.same("the second has none", shareText(c, 7), "0:101-102 of 3 0");
        c.heirs(2, 4, 1, 25, 2, 25, 1, 25, 2, 25);
        Check.same("an heir twice", shareText(c, 10), "0:1107-1440 of 2 0");
        firstPieceKeepsTheNumber();
        c.let(3, 1, 5, 6);
        Check.refused("let", STATE, () -> c.heirs(3, 1, 0, 0, 0, 0, 0, 0, 0, 0));
        c.minutes(6);
        Check.same("let is past", c.heirs(3, 2, 0, 1, 1, 1, 0, 0, 0, 0), 2);
        Check.same("pieces without letting", c.holder(0, 5), 0);
        heirsToSixty();
    }

    private static void firstPieceKeepsTheNumber() {
        DesertChannels c = new DesertChannels();
        dug(c, 0, 0, 0, 0, 0, 0);
        c.sell(0, 0, 101, 1);
        Check.same("of 101, as 100 to 1", c.heirs(0, 2, 2, 100, 3, 1, 0, 0, 0, 0), 2);
        Check.same("100", shareText(c, 0), "0:0-100 of 2 0");
        c.sell(0, 0, 50, 4);
        Check.same("of 50, as 1 to 100: 0 and 49, and one left over", c.heirs(0, 2, 5, 1, 6, 100, 0, 0, 0, 0), 2);
        Check.same("first", shareText(c, 0), "0:0-1 of 5 0");
        c.sell(3, 50, 52, 4);
        Check.same("of 2, as 1 to 100 to 100: 0, 0, 0", c.heirs(3, 3, 7, 1, 8, 100, 9, 100, 0, 0), 2);
        Check.same("first", shareText(c, 3), "0:50-51 of 7 0");
        Check.same("second", shareText(c, 6), "0:51-52 of 8 0");
    }

    private static void heirsToSixty() {
        DesertChannels c = new DesertChannels();
        dug(c, 0, 0, 0, 0, 0, 0);
        for (int i = 1; i < 59; i++) {
            c.sell(0, 0, 1440 - i, 1);
        }
        Check.refused("61 would be", FULL, () -> c.heirs(0, 3, 1, 1, 2, 1, 3, 1, 0, 0));
        Check.same("a minute is not parted", c.heirs(1, 4, 1, 1, 2, 1, 3, 1, 4, 1), 1);
        Check.same("60", c.heirs(0, 2, 1, 1, 2, 1, 3, 1, 0, 0), 2);
        Check.refused("61 would be", FULL, () -> c.heirs(0, 2, 1, 1, 2, 1, 3, 1, 0, 0));
        Check.refused("argument first", ARGUMENT, () -> c.heirs(0, 2, 1, 0, 2, 1, 3, 1, 0, 0));
        Check.same("still one piece", c.heirs(2, 4, 9, 1, 2, 1, 3, 1, 4, 1), 1);
        Check.same("its heir", shareText(c, 2), "0:1438-1439 of 9 0");
    }

    private static void promise16Let() {
        DesertChannels c = new DesertChannels();
        Check.refused("no share", NO_SUCH, () -> c.let(0, 0, 0, 0));
        dug(c, 0, 0, 0, 0, 0, 0);
        Check.refused("its owner", ARGUMENT, () -> c.let(0, 0, 0, 1));
        Check.refused("31", ARGUMENT, () -> c.let(0, 31, 0, 1));
        Check.refused("-1", ARGUMENT, () -> c.let(0, -1, 0, 1));
        Check.refused("no time", ARGUMENT, () -> c.let(0, 1, 7, 7));
        Check.refused("too long", ARGUMENT, () -> c.let(0, 1, 7, 100000001));
        c.minutes(10);
        Check.refused("ahead of now", ARGUMENT, () -> c.let(0, 1, 9, 20));
        c.let(0, 1, 10, 20);
        Check.same("ahead of it", c.holder(0, 9), 0);
        Check.same("first", c.holder(0, 10), 1);
        Check.same("last", c.holder(0, 19), 1);
        Check.same("behind it", c.holder(0, 20), 0);
        Check.same("the next turn", c.holder(0, 1450), 0);
        Check.refused("is let", STATE, () -> c.let(0, 31, 30, 40));
        c.minutes(9);
        Check.refused("is let still", STATE, () -> c.let(0, 2, 30, 40));
        c.minutes(1);
        Check.same("past", c.share(0, 4), 0);
        c.let(0, 2, 99999999, 100000000);
        Check.same("let again", c.holder(0, 99999999), 2);
        Check.same("later counts", c.count(5), 1);
        Check.same("the owner stays", c.share(0, 3), 0);
    }

    private static void promise17Minutes() {
        DesertChannels c = new DesertChannels();
        Check.same("none later", c.minutes(0), 0);
        Check.same("100000 later", c.minutes(100000), 100000);
        Check.same("1 later", c.minutes(1), 100001);
        Check.refused("-1", ARGUMENT, () -> c.minutes(-1));
        Check.refused("100001", ARGUMENT, () -> c.minutes(100001));
        Check.same("count", c.count(3), 100001);
    }

    private static void promise18Holder() {
        DesertChannels c = new DesertChannels();
        Check.refused("no channel", NO_SUCH, () -> c.holder(0, -1));
        told(c, 0, 0, 0, 0, 0, 0);
        Check.same("not dug", c.holder(0, 0), -1);
        Check.refused("below 0", ARGUMENT, () -> c.holder(0, -1));
        c.dig(0, 4, 2);
        dug(c, 0, 0, 0, 0, 0, 0);
        c.sell(0, 1440, 2880, 5);
        Check.same("first day", c.holder(0, 1439), 4);
        Check.same("second day", c.holder(0, 1440), 5);
        Check.same("the last minute", c.holder(0, 2879), 5);
        Check.same("third day", c.holder(0, 2880), 4);
        Check.same("the other channel", c.holder(1, 1440), 0);
        c.sell(2, 700, 1440, 8);
        Check.same("just ahead of it", c.holder(0, 699), 4);
        Check.same("its first", c.holder(0, 700), 8);
        Check.same("the largest minute", c.holder(0, 2147483647), 2147483647 % 2880 < 1440 ? 4 : 5);
        c.sell(2, 700, 1440, 4);
        c.let(3, 6, 1440, 4321);
        Check.same("not this share's minute", c.holder(0, 1440), 5);
        Check.same("let", c.holder(0, 2880), 6);
        Check.same("let no more", c.holder(0, 5760), 4);
    }

    private static void promise19Share() {
        DesertChannels c = new DesertChannels();
        Check.refused("no share", NO_SUCH, () -> c.share(0, 9));
        told(c);
        told(c, 0, 0, 0, 0, 0, 0);
        c.dig(1, 17, 3);
        Check.same("share", shareText(c, 0), "1:0-4320 of 17 0");
        c.let(0, 1, 100, 200);
        Check.same("let", c.share(0, 4), 1);
        c.minutes(200);
        Check.same("let no more", c.share(0, 4), 0);
        Check.refused("what -1", NO_WHAT, () -> c.share(0, -1));
        Check.refused("what 5", NO_WHAT, () -> c.share(0, 5));
        Check.refused("share -1", NO_SUCH, () -> c.share(-1, 0));
        Check.refused("share 1", NO_SUCH, () -> c.share(1, 5));
    }

    private static void promise20Law() {
        DesertChannels c = new DesertChannels();
        Check.same("one term", law(c, "distance 100"), 1);
        Check.same("used up", c.end(1), false);
        Check.same("blanks anywhere", law(c, "   depth   1000  ;  repair   heads ; free 0100   "), 3);
        Check.same("all", says(c), "100 1000 1 100");
        Check.same("no blanks", law(c, "distance0;depth0000;repair hours;free7"), 4);
        Check.same("all", says(c), "0 0 0 7");
        Check.same("the later counts", law(c, "free 1;free 2;free 3;repair heads;repair hours"), 5);
        Check.same("free", c.says(3), 3);
        Check.same("hours", c.says(2), 0);
        StringBuilder most = new StringBuilder("free 1");
        for (int i = 1; i < 57; i++) {
            most.append(";free 1");
        }
        Check.same("399 bytes", law(c, most.append(" ").toString()), 57);
        wrongAt("free 1;free 2;depth 1001", 20);
        wrongAt("", 0);
        wrongAt("   ", 3);
    }

    private static void promise21Fault() {
        DesertChannels c = new DesertChannels();
        Check.same("ahead of any", c.fault(), -1);
        Check.refused("wrong", ARGUMENT, () -> law(c, "x"));
        Check.same("wrong", c.fault(), 0);
        Check.same("fault stays", c.fault(), 0);
        law(c, "free 1");
        Check.same("right", c.fault(), -1);
        wrongAt(";", 0);
        wrongAt("free", 4);
        wrongAt("free  ", 6);
        wrongAt("free ;", 5);
        wrongAt("free 1;", 7);
        wrongAt("free 1 ; ", 9);
        wrongAt("free 1;;free 2", 7);
        wrongAt("free 1 free 2", 7);
        wrongAt("free 1free 2", 6);
        wrongAt("free 1 2", 7);
        wrongAt("free 101", 5);
        wrongAt("distance 101", 9);
        wrongAt("depth 1001", 6);
        wrongAt("depth 00001", 6);
        wrongAt("depth 10 00", 9);
        wrongAt("freedom 1", 0);
        wrongAt("fre 1", 0);
        wrongAt("Free 1", 0);
        wrongAt("freE 1", 0);
        wrongAt("tree 1", 0);
        wrongAt("repair beads", 7);
        wrongAt("free -1", 5);
        wrongAt("free one", 5);
        wrongAt("free\t1", 4);
        wrongAt("1", 0);
        wrongAt("hours", 0);
        wrongAt("repair", 6);
        wrongAt("repair 1", 7);
        wrongAt("repair  hour", 8);
        wrongAt("repair hoursx", 7);
        wrongAt("repairhours", 0);
        wrongAt("repair free 1", 7);
        wrongAt("repair hours heads", 13);
        wrongAt("repair hours" + (char) 0, 12);
        wrongAt("free 1" + (char) 200, 6);
    }

    private static void promise22Says() {
        DesertChannels c = new DesertChannels();
        law(c, "distance 1;depth 2;repair heads;free 3");
        Check.same("distance", c.says(0), 1);
        Check.same("depth", c.says(1), 2);
        Check.same("heads", c.says(2), 1);
        Check.same("free", c.says(3), 3);
        Check.refused("what -1", NO_WHAT, () -> c.says(-1));
        Check.refused("what 4", NO_WHAT, () -> c.says(4));
    }

    private static void promise23Pays() {
        DesertChannels c = new DesertChannels();
        Check.refused("no channel", NO_SUCH, () -> c.pays(0, 31, -1));
        told(c, 0, 0, 0, 0, 0, 0);
        Check.refused("not dug", STATE, () -> c.pays(0, 31, -1));
        c.dig(0, 9, 15);
        dug(c, 0, 0, 0, 0, 0, 0);
        Check.refused("owner -1", ARGUMENT, () -> c.pays(0, -1, 0));
        Check.refused("owner 31", ARGUMENT, () -> c.pays(0, 31, 0));
        Check.refused("costs -1", ARGUMENT, () -> c.pays(0, 0, -1));
        Check.refused("costs 1000001", ARGUMENT, () -> c.pays(0, 0, 1000001));
        Check.same("all by one", c.pays(0, 9, 1000000), 1000000);
        Check.same("not of this channel", c.pays(0, 0, 1000000), 0);
        c.sell(0, 0, 7200, 2);
        c.sell(2, 7200, 14400, 30);
        Check.same("thirds, one left over", c.pays(0, 2, 1000000), 333334);
        Check.same("second", c.pays(0, 9, 1000000), 333333);
        Check.same("third", c.pays(0, 30, 1000000), 333333);
        Check.same("two left over", c.pays(0, 9, 2) + " " + c.pays(0, 30, 2), "1 0");
        c.let(0, 20, 0, 100);
        Check.same("who has it on lease pays nothing", c.pays(0, 20, 1000), 0);
        c.sell(3, 14400, 18000, 2);
        Check.same("two shares of one", c.pays(0, 2, 600), 300);
        law(c, "repair heads");
        Check.same("by heads", c.pays(0, 2, 600), 200);
        Check.same("left over", c.pays(0, 2, 601) + " " + c.pays(0, 9, 602) + " " + c.pays(0, 30, 602), "201 201 200");
        law(c, "free 33");
        Check.same("33 of 101 are free: 68 are paid", c.pays(0, 2, 101) + " " + c.pays(0, 9, 101) + " "
                + c.pays(0, 30, 101), "23 23 22");
        law(c, "free 100");
        Check.same("all free", c.pays(0, 2, 1000000), 0);
        Check.same("costs of nothing", c.pays(0, 2, 0), 0);
        law(c, "free 0;repair hours");
        c.sell(1, 0, 720, 1);
        Check.same("owner 0 is the first", c.pays(1, 0, 101) + " " + c.pays(1, 1, 101), "51 50");
    }

    private static void promise24Field() {
        DesertChannels c = new DesertChannels();
        Check.refused("0 minutes", ARGUMENT, () -> c.field(0, 0, 0));
        Check.refused("1001 minutes", ARGUMENT, () -> c.field(1001, 0, 0));
        Check.refused("due -1", ARGUMENT, () -> c.field(1, -1, 0));
        Check.refused("due 10001", ARGUMENT, () -> c.field(1, 10001, 0));
        Check.refused("loss -1", ARGUMENT, () -> c.field(1, 0, -1));
        Check.refused("loss 101", ARGUMENT, () -> c.field(1, 0, 101));
        Check.same("none", c.count(6), 0);
        Check.same("most", c.field(1000, 10000, 100), 1);
        for (int i = 2; i <= 9; i++) {
            Check.same("field", c.field(1, 0, 0), i);
        }
        Check.same("tenth", c.field(1, 0, 1), -1);
        Check.refused("wrong tenth", ARGUMENT, () -> c.field(0, 0, 0));
        Check.same("nine", c.count(6), 9);
        Check.same("the tenth is not told", c.least(), 0);
    }

    private static void promise25Least() {
        DesertChannels c = new DesertChannels();
        Check.same("no fields", c.least(), 0);
        c.field(10, 10, 5);
        Check.same("done when due", c.least(), 0);
        c.field(10, 9, 5);
        Check.same("one late", c.least(), 5);
        c.field(100, 0, 1);
        c.field(1, 0, 1);
        Check.same("the short one first", c.least(), 1 + 101);
        c.field(10, 10, 1);
        c.field(10, 10, 100);
        c.field(10, 20, 3);
        Check.same("the dear one first", c.least(), 20);
        Check.same("none are told any more", c.count(6), 0);
        Check.same("none", c.least(), 0);
        for (int i = 0; i < 9; i++) {
            c.field(1000, 0, 100);
        }
        Check.same("most", c.least(), 4500000);
    }

    private static void promise26Count() {
        DesertChannels c = new DesertChannels();
        dug(c, 0, 0, 300, 0, 1, 301);
        told(c, 1, 1, 0, 1, 1, 0);
        dug(c, 90, 90, 300, 90, 90, 301);
        c.years(7);
        c.minutes(11);
        c.sell(0, 0, 5, 1);
        c.let(1, 2, 11, 12);
        c.let(2, 2, 500, 501);
        c.field(1, 1, 1);
        Check.same("channels", c.count(0), 3);
        Check.same("dug", c.count(1), 2);
        Check.same("year", c.count(2), 7);
        Check.same("now", c.count(3), 11);
        Check.same("shares", c.count(4), 3);
        Check.same("let", c.count(5), 2);
        Check.same("fields", c.count(6), 1);
        Check.same("flow", c.count(7), c.flow(0) + c.flow(2));
        Check.same("flow", c.count(7), 20 + 19 + 38 + 37);
        c.minutes(1);
        Check.same("let later", c.count(5), 1);
        Check.same("-1", c.count(-1), -1);
        Check.same("8", c.count(8), -1);
    }
}
