import java.util.NoSuchElementException;
import java.util.function.IntConsumer;

/** What the tests share; they extend it, for a class without a package cannot be imported. */
class Helpers {
    static final Class<IndexOutOfBoundsException> NO_SUCH = IndexOutOfBoundsException.class;
    static final Class<IllegalStateException> STATE = IllegalStateException.class;
    static final Class<IllegalArgumentException> ARGUMENT = IllegalArgumentException.class;
    static final Class<UnsupportedOperationException> FULL = UnsupportedOperationException.class;
    static final Class<NoSuchElementException> NO_WHAT = NoSuchElementException.class;

    Helpers() {
    }

    /** A channel of the wells x, y, floor, x, y, floor, ..: its number. */
    static int told(DesertChannels c, int... wells) {
        int number = c.channel();
        for (int i = 0; i + 2 < wells.length; i += 3) {
            c.well(number, wells[i], wells[i + 1], wells[i + 2]);
        }
        return number;
    }

    static int dug(DesertChannels c, int... wells) {
        int number = told(c, wells);
        c.dig(number, 0, 1);
        return number;
    }

    /** A channel of two wells at (0, 0), dug by owner 0 with a turn of one day. */
    static DesertChannels withOneChannel() {
        DesertChannels c = new DesertChannels();
        dug(c, 0, 0, 0, 0, 0, 0);
        return c;
    }

    /** One channel of one day in so many shares, the first of them the longest, all of owner 1 but for the last. */
    static DesertChannels withShares(int many) {
        DesertChannels c = withOneChannel();
        for (int i = 1; i < many; i++) {
            c.sell(0, 0, 1440 - i, 1);
        }
        return c;
    }

    static void write(DesertChannels c, String text) {
        c.end(0);
        writeBehind(c, 0, text);
    }

    /** The tape, of so many bytes, goes on with the text. */
    static void writeBehind(DesertChannels c, int length, String text) {
        for (int i = 0; i < text.length(); i += 20) {
            int[] n = new int[5];
            for (int k = 0; k < 20; k++) {
                int sign = i + k < text.length() ? text.charAt(i + k) : 'z';
                n[k / 4] = n[k / 4] << 8 | sign;
            }
            c.feed(n[0], n[1], n[2], n[3], n[4]);
        }
        c.end(length + text.length());
    }

    static int law(DesertChannels c, String text) {
        write(c, text);
        return c.law();
    }

    static String says(DesertChannels c) {
        return c.says(0) + " " + c.says(1) + " " + c.says(2) + " " + c.says(3);
    }

    static String shareText(DesertChannels c, int n) {
        return c.share(n, 0) + ":" + c.share(n, 1) + "-" + c.share(n, 2) + " of " + c.share(n, 3) + " " + c.share(n, 4);
    }

    /** The text is wrong at that byte, and a law that had been read before it stays. */
    static void wrongAt(String text, int at) {
        DesertChannels c = new DesertChannels();
        law(c, "distance 7;depth 8;repair heads;free 9");
        Check.refused("law '" + text + "'", ARGUMENT, () -> law(c, text));
        Check.same("fault of '" + text + "'", c.fault(), at);
        Check.same("tape is used up", c.end(1), false);
        Check.same("law stays", says(c), "7 8 1 9");
    }

    /** Both ends of what is taken, what is refused next to them, and the ends of int; the call makes its own object. */
    static void bounds(String what, int least, int most, IntConsumer call) {
        for (int n : new int[] {least, most}) {
            Check.taken(what + " " + n, () -> call.accept(n));
        }
        for (int n : new int[] {least - 1, most + 1, Integer.MIN_VALUE, Integer.MAX_VALUE}) {
            Check.refused(what + " " + n, ARGUMENT, () -> call.accept(n));
        }
    }
}
