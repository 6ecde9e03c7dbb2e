import java.lang.reflect.InvocationTargetException;
import java.lang.reflect.Method;
import java.util.HashMap;
import java.util.Map;
import java.util.function.Function;
import java.util.function.Supplier;

/**
 * Behind a call that throws, or that answers that nothing happens, or that only looks, all is as if it had not been
 * called: two objects with the same past, one of them with that call too, answer alike from then on. And of several
 * exceptions the one told first is thrown.
 */
public final class RefusedTest extends Helpers {
    private static final int BLANKS = 0x20202020;
    private static final int SMALLEST = Integer.MIN_VALUE;
    private static final int LARGEST = Integer.MAX_VALUE;
    private static final String OUTSIDE = NO_SUCH.getName();
    private static final String STATED = STATE.getName();
    private static final String WRONG = ARGUMENT.getName();
    private static final String CROWDED = FULL.getName();
    private static final String UNTOLD = NO_WHAT.getName();
    private static final Map<String, Method> FACE = new HashMap<>();

    private final String name;
    private final Supplier<DesertChannels> past;

    private RefusedTest(String name, Supplier<DesertChannels> past) {
        this.name = name;
        this.past = past;
    }

    public static void main(String[] args) {
        for (Method m : DesertChannels.class.getDeclaredMethods()) {
            FACE.put(m.getName(), m);
        }
        newObject(new RefusedTest("new", DesertChannels::new));
        RefusedTest lived = new RefusedTest("lived", RefusedTest::lived);
        tellingRefused(lived);
        diggingRefused(lived);
        waterRefused(lived);
        sellRefused(lived);
        heirsRefused(lived);
        letRefused(lived);
        timesRefused(lived);
        looksRefused(lived);
        looksChangeNothing(lived);
        channelsFull(new RefusedTest("eight channels", RefusedTest::withEightChannels));
        sharesFull(new RefusedTest("sixty shares", () -> withPlan(withShares(60))));
        sharesNearlyFull(new RefusedTest("59 shares", () -> withShares(59)));
        fieldsFull(new RefusedTest("nine fields", RefusedTest::withNineFields));
        tapeFull(new RefusedTest("full tape", RefusedTest::withFullTape));
        lawRefused();
        Check.finish("RefusedTest");
    }

    private static Object answer(DesertChannels c, String call, Object... args) {
        try {
            return FACE.get(call).invoke(c, args);
        } catch (InvocationTargetException e) {
            return e.getCause().getClass().getName();
        } catch (IllegalAccessException e) {
            return "not to be called";
        }
    }

    /** The call answers as due (null for void), and nothing has changed. */
    private void idle(Object due, String call, Object... args) {
        String what = name + ": " + call + java.util.Arrays.toString(args);
        Check.same(what, String.valueOf(answer(past.get(), call, args)), String.valueOf(due));
        alike(what + " and the water", RefusedTest::water, call, args);
        alike(what + " and the shares", RefusedTest::shares, call, args);
        alike(what + " and the plans", RefusedTest::plans, call, args);
        alike(what + " and the texts", RefusedTest::texts, call, args);
    }

    private void alike(String what, Function<DesertChannels, String> later, String call, Object... args) {
        DesertChannels called = past.get();
        answer(called, call, args);
        Check.same(what, later.apply(called), later.apply(past.get()));
    }

    private static String water(DesertChannels c) {
        StringBuilder text = new StringBuilder();
        for (int year = 0; year < 3; year++) {
            for (int i = 0; i < 9; i++) {
                text.append(answer(c, "flow", i)).append(' ').append(answer(c, "harm", i)).append(' ');
                for (int w = 0; w < 4; w++) {
                    text.append(answer(c, "seep", i, w)).append(' ');
                }
            }
            text.append(c.count(2)).append(' ').append(c.count(7)).append('\n');
            c.years(2);
        }
        for (int i = 0; i < 8; i++) {
            for (int w = 0; w < 20; w += 1 + w / 4) {
                text.append(answer(c, "collapse", i, w, true)).append(' ');
            }
        }
        return text.toString();
    }

    private static String shares(DesertChannels c) {
        StringBuilder text = new StringBuilder();
        for (int what = 0; what <= 7; what++) {
            text.append(c.count(what)).append(' ');
        }
        for (int i = 0; i <= c.count(4) && i < 61; i++) {
            for (int what = 0; what <= 4; what++) {
                text.append(answer(c, "share", i, what)).append(' ');
            }
        }
        for (int i = 0; i < 8; i++) {
            for (int minute = 0; minute < 3000; minute += 500) {
                text.append(answer(c, "holder", i, minute)).append(' ');
            }
            text.append(answer(c, "pays", i, 1, 1000)).append('\n');
        }
        text.append(answer(c, "minutes", 30)).append(' ').append(c.count(5)).append(' ');
        text.append(answer(c, "heirs", 0, 2, 1, 1, 2, 1, 0, 0, 0, 0)).append(' ').append(c.count(4));
        return text.toString();
    }

    /** What is told but not dug, seen by telling more and digging it. */
    private static String plans(DesertChannels c) {
        StringBuilder text = new StringBuilder();
        for (int i = 0; i < 9; i++) {
            text.append(answer(c, "may", i)).append(' ').append(answer(c, "well", i, 3, 3, 390)).append(' ');
            text.append(answer(c, "well", i, 3, 3, 410)).append(' ').append(answer(c, "may", i)).append(' ');
            text.append(answer(c, "dig", i, i, 2)).append('\n');
        }
        text.append(answer(c, "channel")).append(' ').append(answer(c, "channel")).append(' ');
        c.years(5);
        return text.append(water(c)).toString();
    }

    private static String texts(DesertChannels c) {
        StringBuilder text = new StringBuilder();
        text.append(c.fault()).append(' ').append(says(c)).append(' ');
        text.append(c.feed(BLANKS, BLANKS, BLANKS, BLANKS, BLANKS)).append(' ').append(answer(c, "law")).append(' ');
        text.append(c.fault()).append(' ').append(says(c)).append(' ');
        text.append(c.count(6)).append(' ').append(c.least()).append(' ').append(c.field(5, 2, 3)).append(' ');
        return text.append(c.least()).toString();
    }

    /** Two channels dug; a plan that may be dug, one that may not, one of one well; shares let now, later and past. */
    private static DesertChannels lived() {
        DesertChannels c = new DesertChannels();
        c.ground(450, 3);
        law(c, "distance 3;depth 5;repair heads;free 7");
        dug(c, 10, 10, 300, 15, 10, 310, 20, 10, 340);
        c.years(2);
        told(c, 14, 14, 350, 30, 14, 360);
        c.dig(1, 5, 2);
        told(c, 50, 50, 100, 60, 50, 400);
        told(c, 11, 11, 200, 60, 60, 400);
        told(c, 3, 3, 400);
        c.collapse(0, 2, true);
        c.sell(0, 100, 200, 1);
        c.sell(1, 0, 1440, 6);
        c.let(2, 9, 0, 10);
        c.let(0, 8, 20, 600);
        c.let(3, 7, 1000, 2000);
        c.minutes(50);
        c.years(3);
        c.field(10, 12, 3);
        c.field(20, 5, 4);
        answer(c, "law");
        write(c, "free 50;repair hours");
        return c;
    }

    private static void newObject(RefusedTest t) {
        t.idle(OUTSIDE, "well", 0, 0, 0, 0);
        t.idle(OUTSIDE, "may", 0);
        t.idle(OUTSIDE, "dig", 0, 0, 1);
        t.idle(OUTSIDE, "collapse", 0, 0, true);
        t.idle(OUTSIDE, "flow", 0);
        t.idle(OUTSIDE, "harm", 0);
        t.idle(OUTSIDE, "seep", 0, 0);
        t.idle(OUTSIDE, "sell", 0, 0, 1, 0);
        t.idle(OUTSIDE, "heirs", 0, 2, 0, 1, 0, 1, 0, 0, 0, 0);
        t.idle(OUTSIDE, "let", 0, 0, 0, 1);
        t.idle(OUTSIDE, "holder", 0, 0);
        t.idle(OUTSIDE, "share", 0, 0);
        t.idle(OUTSIDE, "pays", 0, 0, 0);
        t.idle(true, "end", 0);
        t.idle(false, "end", 1);
        t.idle(0, "least");
    }

    private static void tellingRefused(RefusedTest t) {
        t.idle(WRONG, "ground", 2001, 5);
        t.idle(WRONG, "ground", -1, 5);
        t.idle(WRONG, "ground", 5, 21);
        t.idle(WRONG, "ground", 5, -1);
        t.idle(OUTSIDE, "well", 5, 1, 1, 500);
        t.idle(OUTSIDE, "well", -1, 101, 1, 500);
        t.idle(STATED, "well", 0, 1, 1, 500);
        t.idle(STATED, "well", 1, 101, 101, 1001);
        t.idle(WRONG, "well", 2, -1, 1, 500);
        t.idle(WRONG, "well", 2, 101, 1, 500);
        t.idle(WRONG, "well", 2, 1, -1, 500);
        t.idle(WRONG, "well", 2, 1, 101, 500);
        t.idle(WRONG, "well", 2, 1, 1, 1001);
        t.idle(WRONG, "well", 2, 1, 1, 399);
        t.idle(WRONG, "well", 4, 1, 1, -1);
        t.idle(WRONG, "well", 4, 1, 1, 399);
        t.idle(WRONG, "field", 0, 1, 1);
        t.idle(WRONG, "field", 1001, 1, 1);
        t.idle(WRONG, "field", 1, -1, 1);
        t.idle(WRONG, "field", 1, 10001, 1);
        t.idle(WRONG, "field", 1, 1, -1);
        t.idle(WRONG, "field", 1, 1, 101);
        t.idle(false, "end", -1);
        t.idle(false, "end", 21);
        t.idle(false, "end", LARGEST);
        t.idle(false, "end", SMALLEST);
        t.idle(true, "end", 20);
    }

    private static void diggingRefused(RefusedTest t) {
        t.idle(OUTSIDE, "may", 5);
        t.idle(STATED, "may", 0);
        t.idle(OUTSIDE, "dig", 5, 31, 0);
        t.idle(STATED, "dig", 0, 0, 1);
        t.idle(STATED, "dig", 1, 31, 16);
        t.idle(WRONG, "dig", 2, 31, 1);
        t.idle(WRONG, "dig", 2, -1, 1);
        t.idle(WRONG, "dig", 2, 0, 0);
        t.idle(WRONG, "dig", 2, 0, 16);
        t.idle(WRONG, "dig", 3, 31, 1);
        t.idle(WRONG, "dig", 4, 0, 16);
        t.idle(-1, "dig", 3, 0, 1);
        t.idle(-1, "dig", 4, 0, 1);
    }

    private static void waterRefused(RefusedTest t) {
        t.idle(OUTSIDE, "collapse", 5, 0, true);
        t.idle(OUTSIDE, "collapse", 0, 3, true);
        t.idle(OUTSIDE, "collapse", 0, -1, true);
        t.idle(OUTSIDE, "collapse", 2, 2, true);
        t.idle(STATED, "collapse", 2, 1, true);
        t.idle(STATED, "collapse", 4, 0, false);
        t.idle(false, "collapse", 0, 2, true);
        t.idle(false, "collapse", 0, 0, false);
        t.idle(OUTSIDE, "flow", 5);
        t.idle(STATED, "flow", 2);
        t.idle(OUTSIDE, "harm", 5);
        t.idle(STATED, "harm", 2);
        t.idle(OUTSIDE, "seep", 5, 0);
        t.idle(OUTSIDE, "seep", 0, 3);
        t.idle(OUTSIDE, "seep", 2, 2);
        t.idle(STATED, "seep", 2, 1);
    }

    private static void sellRefused(RefusedTest t) {
        t.idle(OUTSIDE, "sell", 5, 1, 2, 3);
        t.idle(OUTSIDE, "sell", -1, 2, 1, 31);
        t.idle(STATED, "sell", 0, 150, 160, 3);
        t.idle(STATED, "sell", 0, 160, 150, 31);
        t.idle(STATED, "sell", 3, 300, 400, 3);
        t.idle(WRONG, "sell", 2, 1, 2, 31);
        t.idle(WRONG, "sell", 2, 1, 2, -1);
        t.idle(WRONG, "sell", 2, 2, 2, 3);
        t.idle(WRONG, "sell", 2, 3, 2, 3);
        t.idle(WRONG, "sell", 2, -1, 2, 3);
        t.idle(WRONG, "sell", 2, 1, 101, 3);
        t.idle(WRONG, "sell", 1, 0, 1441, 3);
        t.idle(WRONG, "sell", 2, SMALLEST, LARGEST, 3);
    }

    private static void heirsRefused(RefusedTest t) {
        t.idle(OUTSIDE, "heirs", 5, 2, 1, 1, 2, 1, 0, 0, 0, 0);
        t.idle(OUTSIDE, "heirs", -1, 1, 31, 1, 2, 0, 0, 0, 0, 0);
        t.idle(STATED, "heirs", 0, 2, 1, 1, 2, 1, 0, 0, 0, 0);
        t.idle(STATED, "heirs", 3, 1, 31, 0, 2, 1, 0, 0, 0, 0);
        t.idle(WRONG, "heirs", 2, 1, 1, 1, 2, 1, 3, 1, 4, 1);
        t.idle(WRONG, "heirs", 2, 5, 1, 1, 2, 1, 3, 1, 4, 1);
        t.idle(WRONG, "heirs", 2, SMALLEST, 1, 1, 2, 1, 3, 1, 4, 1);
        t.idle(WRONG, "heirs", 2, LARGEST, 1, 1, 2, 1, 3, 1, 4, 1);
        t.idle(WRONG, "heirs", 2, 2, 1, 1, 31, 1, 3, 1, 4, 1);
        t.idle(WRONG, "heirs", 2, 2, 1, 1, 2, 101, 3, 1, 4, 1);
        t.idle(WRONG, "heirs", 2, 4, 1, 1, 2, 1, 3, 1, 31, 1);
        t.idle(WRONG, "heirs", 2, 4, 1, 1, 2, 1, 3, 1, 4, 0);
    }

    private static void letRefused(RefusedTest t) {
        t.idle(OUTSIDE, "let", 5, 3, 60, 70);
        t.idle(OUTSIDE, "let", -1, 31, 70, 60);
        t.idle(STATED, "let", 0, 3, 700, 800);
        t.idle(STATED, "let", 3, 31, 70, 60);
        t.idle(WRONG, "let", 2, 0, 60, 70);
        t.idle(WRONG, "let", 2, 31, 60, 70);
        t.idle(WRONG, "let", 2, -1, 60, 70);
        t.idle(WRONG, "let", 2, 3, 49, 70);
        t.idle(WRONG, "let", 2, 3, 60, 60);
        t.idle(WRONG, "let", 2, 3, 60, 100000001);
        t.idle(WRONG, "let", 2, 3, SMALLEST, LARGEST);
    }

    private static void timesRefused(RefusedTest t) {
        for (int n : new int[] {-1, 101, SMALLEST, LARGEST}) {
            t.idle(WRONG, "years", n);
        }
        for (int n : new int[] {-1, 100001, SMALLEST, LARGEST}) {
            t.idle(WRONG, "minutes", n);
        }
        t.idle(5, "years", 0);
        t.idle(50, "minutes", 0);
    }

    private static void looksRefused(RefusedTest t) {
        t.idle(OUTSIDE, "holder", 5, -1);
        t.idle(WRONG, "holder", 0, -1);
        t.idle(WRONG, "holder", 2, -1);
        t.idle(OUTSIDE, "share", 5, 5);
        t.idle(UNTOLD, "share", 0, 5);
        t.idle(UNTOLD, "share", 0, -1);
        t.idle(UNTOLD, "says", 4);
        t.idle(UNTOLD, "says", -1);
        t.idle(OUTSIDE, "pays", 5, 31, -1);
        t.idle(STATED, "pays", 2, 31, -1);
        t.idle(WRONG, "pays", 0, 31, 5);
        t.idle(WRONG, "pays", 0, -1, 5);
        t.idle(WRONG, "pays", 0, 1, -1);
        t.idle(WRONG, "pays", 0, 1, 1000001);
        t.idle(-1, "count", 8);
        t.idle(-1, "count", -1);
    }

    private static void looksChangeNothing(RefusedTest t) {
        DesertChannels c = t.past.get();
        t.idle(true, "may", 2);
        t.idle(false, "may", 3);
        t.idle(false, "may", 4);
        t.idle(c.flow(0), "flow", 0);
        t.idle(c.harm(0), "harm", 0);
        t.idle(c.seep(1, 1), "seep", 1, 1);
        t.idle(8, "holder", 0, 150);
        t.idle(-1, "holder", 2, 150);
        t.idle(1, "share", 0, 4);
        t.idle(0, "fault");
        t.idle(7, "says", 3);
        t.idle(c.pays(0, 1, 999), "pays", 0, 1, 999);
        for (int what = 0; what <= 7; what++) {
            t.idle(c.count(what), "count", what);
        }
    }

    private static DesertChannels withEightChannels() {
        DesertChannels c = new DesertChannels();
        for (int i = 0; i < 6; i++) {
            dug(c, 10 * i, 0, 400, 10 * i, 5, 401);
        }
        c.channel();
        c.channel();
        for (int w = 0; w < 20; w++) {
            c.well(7, w, 50, 400);
        }
        return c;
    }

    private static void channelsFull(RefusedTest t) {
        t.idle(CROWDED, "channel");
        t.idle(OUTSIDE, "well", 8, 0, 0, 0);
        t.idle(CROWDED, "well", 7, 0, 0, 400);
        t.idle(WRONG, "well", 7, 0, 0, 399);
        t.idle(WRONG, "well", 7, 101, 0, 400);
        t.idle(-1, "dig", 6, 0, 1);
    }

    private static DesertChannels withPlan(DesertChannels c) {
        told(c, 5, 5, 100, 6, 6, 100);
        c.let(1, 2, 5, 6);
        return c;
    }

    private static void sharesFull(RefusedTest t) {
        t.idle(-1, "dig", 1, 0, 1);
        t.idle(WRONG, "dig", 1, 0, 0);
        t.idle(OUTSIDE, "sell", 60, 0, 1, 0);
        t.idle(CROWDED, "sell", 0, 0, 1, 2);
        t.idle(CROWDED, "sell", 0, 1, 1381, 2);
        t.idle(CROWDED, "sell", 0, 1, 2, 2);
        t.idle(WRONG, "sell", 0, 1, 1382, 2);
        t.idle(STATED, "sell", 1, 1439, 1440, 2);
        t.idle(CROWDED, "heirs", 0, 2, 7, 1, 8, 1, 0, 0, 0, 0);
        t.idle(CROWDED, "heirs", 0, 4, 7, 1, 8, 1, 9, 1, 10, 1);
        t.idle(WRONG, "heirs", 0, 4, 1, 1, 2, 1, 3, 1, 4, 101);
        t.idle(STATED, "heirs", 1, 2, 1, 1, 2, 1, 0, 0, 0, 0);
    }

    private static void sharesNearlyFull(RefusedTest t) {
        t.idle(CROWDED, "sell", 0, 1, 2, 2);
        t.idle(CROWDED, "heirs", 0, 3, 7, 1, 8, 1, 9, 1, 0, 0);
    }

    private static DesertChannels withNineFields() {
        DesertChannels c = new DesertChannels();
        for (int i = 1; i <= 9; i++) {
            c.field(10 * i, 50, i);
        }
        return c;
    }

    private static void fieldsFull(RefusedTest t) {
        t.idle(-1, "field", 1, 0, 100);
        t.idle(WRONG, "field", 0, 0, 100);
    }

    private static DesertChannels withFullTape() {
        DesertChannels c = new DesertChannels();
        write(c, " ".repeat(382) + "free 44");
        return c;
    }

    private static void tapeFull(RefusedTest t) {
        t.idle(-1, "feed", 0, 0, 0, 0, 0);
        t.idle(-1, "feed", BLANKS, BLANKS, BLANKS, BLANKS, BLANKS);
        t.idle(false, "end", 390);
        t.idle(true, "end", 389);
    }

    /** A wrong text uses the tape up and is told by fault; all else is as without it. */
    private static void lawRefused() {
        for (String text : new String[] {"", "free 50;", "distance 0;depth 0;repair hours;free 99;x"}) {
            RefusedTest t = new RefusedTest("wrong law", () -> {
                DesertChannels c = lived();
                write(c, text);
                return c;
            });
            Check.same("law '" + text + "'", String.valueOf(answer(t.past.get(), "law")), WRONG);
            t.alike("law and the water", RefusedTest::water, "law");
            t.alike("law and the shares", RefusedTest::shares, "law");
            t.alike("law and the plans", RefusedTest::plans, "law");
            DesertChannels c = t.past.get();
            answer(c, "law");
            Check.same("the law stays", says(c), "3 5 1 7");
            Check.same("the tape is used up", c.end(1), false);
            Check.same("the fault", c.fault(), text.indexOf('x') < 0 ? text.length() : text.indexOf('x'));
            Check.same("the fields stay", c.count(6) + " " + c.least(), "2 100");
        }
    }
}
