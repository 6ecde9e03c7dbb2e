import java.lang.reflect.InvocationTargetException;
import java.lang.reflect.Method;
import java.util.HashMap;
import java.util.Map;
import java.util.Random;

/** Long runs of random calls, right and wrong ones, on the class and on the model: all answers are alike. */
public final class RandomRunsTest {
    private static final int RUNS = 400;
    private static final int CALLS = 512;
    /** The document's limits; what is odd is one of them, the one below it or the one above. */
    private static final int[] LIMITS = {0, 2, 4, 5, 8, 9, 15, 20, 30, 50, 60, 100, 400, 1000, 1440, 2000, 10000, 21600,
        100000, 1000000, 100000000, Integer.MAX_VALUE, Integer.MIN_VALUE};
    private static final String[] WORDS = {"distance", "depth", "repair", "free", "hours", "heads", ";", " ", "5",
        "100", "101", "1000", "0007", "00007", "x", "A", "1001", "40"};

    private final Random random;
    private final int run;
    private final int oddEvery;
    private final DesertChannels desert = new DesertChannels();
    private final Model model = new Model();
    private final Map<String, Method> ofDesert = methods(DesertChannels.class);
    private final Map<String, Method> ofModel = methods(Model.class);
    private int calls;

    private RandomRunsTest(int run) {
        this.run = run;
        random = new Random(run);
        oddEvery = run % 4 == 0 ? 5 : 40;
    }

    public static void main(String[] args) {
        for (int run = 0; run < RUNS; run++) {
            new RandomRunsTest(run).go();
        }
        Check.finish("RandomRunsTest");
    }

    private static Map<String, Method> methods(Class<?> c) {
        Map<String, Method> all = new HashMap<>();
        for (Method m : c.getDeclaredMethods()) {
            if (java.lang.reflect.Modifier.isPublic(m.getModifiers())) {
                all.put(m.getName(), m);
            }
        }
        return all;
    }

    private static String answer(Method m, Object on, Object[] args) {
        try {
            return String.valueOf(m.invoke(on, args));
        } catch (InvocationTargetException e) {
            return e.getCause().getClass().getName();
        } catch (IllegalAccessException e) {
            return "not to be called";
        }
    }

    private void call(String name, Object... args) {
        calls++;
        String got = answer(ofDesert.get(name), desert, args);
        String want = answer(ofModel.get(name), model, args);
        Check.same("run " + run + " call " + calls + " " + name + java.util.Arrays.toString(args), got, want);
    }

    private int upTo(int most) {
        return random.nextInt(most + 1);
    }

    /** Mostly what fits, often its ends, now and then what lies next to a limit of anything. */
    private int mostly(int least, int most) {
        if (random.nextInt(oddEvery) == 0) {
            return LIMITS[random.nextInt(LIMITS.length)] - 1 + upTo(2);
        }
        if (random.nextInt(oddEvery) == 0) {
            return random.nextBoolean() ? least - upTo(1) : most + upTo(1);
        }
        return least + upTo(most - least);
    }

    private int anyChannel() {
        return mostly(0, Math.max(0, model.count(0) - (random.nextInt(20) == 0 ? 0 : 1)));
    }

    private int anyShare() {
        return mostly(0, Math.max(0, model.count(4) - (random.nextInt(20) == 0 ? 0 : 1)));
    }

    private void go() {
        int start = 1 + upTo(7);
        for (int i = 0; i < start; i++) {
            tellChannel();
        }
        while (calls < CALLS) {
            step();
        }
    }

    private void step() {
        switch (random.nextInt(16)) {
            case 0 -> tellChannel();
            case 1 -> call("ground", mostly(0, random.nextBoolean() ? 2000 : 600), mostly(0, 20));
            case 2 -> call("years", mostly(0, random.nextBoolean() ? 2 : 100));
            case 3, 4 -> call("collapse", anyChannel(), mostly(0, 5), random.nextInt(3) == 0);
            case 5, 6 -> water();
            case 7, 8 -> trade();
            case 9 -> call("let", anyShare(), mostly(0, 30), model.count(3) + mostly(0, 500),
                    model.count(3) + mostly(0, random.nextBoolean() ? 4000 : 1000));
            case 10 -> call("minutes", mostly(0, random.nextInt(3) == 0 ? 100000 : 700));
            case 11, 12 -> look();
            case 13 -> readLaw();
            case 14 -> call("pays", anyChannel(), mostly(0, 30), mostly(0, random.nextBoolean() ? 100 : 1000000));
            default -> waterFields();
        }
    }

    private void tellChannel() {
        call("channel");
        int channel = model.count(0) - 1;
        int x = upTo(100);
        int y = upTo(100);
        int floor = upTo(700);
        int wells = random.nextInt(6) == 0 ? 22 : upTo(6);
        for (int i = 0; i < wells && calls < CALLS; i++) {
            call("well", channel, x, y, floor);
            x = mostly(Math.max(0, x - 10), Math.min(100, x + 10));
            y = mostly(Math.max(0, y - 10), Math.min(100, y + 10));
            x = Math.max(-1, Math.min(101, x));
            y = Math.max(-1, Math.min(101, y));
            floor = Math.min(1001, floor + (random.nextInt(3) == 0 ? 0 : mostly(-1, 25) % 100));
        }
        call("may", channel);
        call("dig", channel, mostly(0, 30), mostly(1, random.nextBoolean() ? 2 : 15));
    }

    private void water() {
        int channel = anyChannel();
        call("flow", channel);
        call("harm", channel);
        call("seep", channel, mostly(0, 6));
        call("may", anyChannel());
        call("dig", anyChannel(), mostly(0, 30), mostly(1, 15));
    }

    private void trade() {
        int share = anyShare();
        int from = 0;
        int to = 1440;
        if (share >= 0 && share < model.count(4)) {
            from = model.share(share, 1);
            to = model.share(share, 2);
        }
        if (random.nextBoolean()) {
            int middle = mostly(from, to);
            call("sell", share, random.nextBoolean() ? from : middle,
                    random.nextBoolean() ? to : mostly(Math.max(from, Math.min(middle, to)), to), mostly(0, 30));
        } else {
            int most = random.nextBoolean() ? 3 : 100;
            call("heirs", share, mostly(2, 4), mostly(0, 30), mostly(1, most), mostly(0, 30), mostly(1, 100),
                    mostly(0, 30), mostly(1, most), mostly(0, 30), mostly(1, most));
        }
    }

    private void look() {
        call("holder", anyChannel(), mostly(0, random.nextBoolean() ? 3000 : model.count(3) + 3000));
        call("share", anyShare(), mostly(0, 5));
        call("count", mostly(0, 8));
        call("says", mostly(0, 3));
        call("count", 7);
        call("count", 5);
    }

    private void readLaw() {
        StringBuilder text = new StringBuilder();
        int terms = 1 + upTo(random.nextInt(4) == 0 ? 30 : 3);
        for (int i = 0; i < terms; i++) {
            text.append(i > 0 ? ";" : "").append(term());
        }
        if (random.nextInt(3) == 0) {
            text.insert(upTo(text.length()), WORDS[random.nextInt(WORDS.length)]);
        }
        if (random.nextInt(6) == 0) {
            text.setLength(upTo(text.length()));
        }
        feedAll(text.toString());
        call("law");
        call("fault");
    }

    private String term() {
        String blank = "  ".substring(upTo(2));
        String number = Integer.toString(mostly(0, random.nextInt(3) == 0 ? 100 : 12));
        return blank + switch (random.nextInt(4)) {
            case 0 -> "distance" + blank + number;
            case 1 -> "depth " + number;
            case 2 -> "repair " + blank + (random.nextBoolean() ? "hours" : "heads");
            default -> "free " + number;
        } + blank;
    }

    private void feedAll(String text) {
        for (int i = 0; i < text.length(); i += 20) {
            int[] n = new int[5];
            for (int k = 0; k < 20; k++) {
                n[k / 4] = n[k / 4] << 8 | (i + k < text.length() ? text.charAt(i + k) : random.nextInt(256));
            }
            call("feed", n[0], n[1], n[2], n[3], n[4]);
        }
        call("end", random.nextInt(20) == 0 ? mostly(0, 500) : text.length());
    }

    private void waterFields() {
        int fields = random.nextInt(60) == 0 ? 10 : upTo(6);
        for (int i = 0; i < fields; i++) {
            call("field", mostly(1, random.nextBoolean() ? 20 : 1000), mostly(0, random.nextBoolean() ? 60 : 10000),
                    mostly(0, 100));
        }
        call("least");
    }
}
