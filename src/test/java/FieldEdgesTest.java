/** Each sentence of Terms 4, and of the promises that stand on it, that names an edge; and count's. */
public final class FieldEdgesTest extends Helpers {
    private FieldEdgesTest() {
    }

    public static void main(String[] args) {
        numbersOfFields();
        fieldsAreNine();
        lateByMinutes();
        oneAfterTheOther();
        leastOfAllOrders();
        leastForgetsThem();
        countsZeroToSeven();
        Check.finish("FieldEdgesTest");
    }

    /** The least of the fields minutes, due, loss, minutes, due, loss, .. */
    private static int leastOf(int... fields) {
        DesertChannels c = new DesertChannels();
        for (int i = 0; i + 2 < fields.length; i += 3) {
            c.field(fields[i], fields[i + 1], fields[i + 2]);
        }
        return c.least();
    }

    private static void numbersOfFields() {
        bounds("minutes", 1, 1000, n -> new DesertChannels().field(n, 0, 0));
        bounds("due", 0, 10000, n -> new DesertChannels().field(1, n, 0));
        bounds("loss", 0, 100, n -> new DesertChannels().field(1, 0, n));
        Check.same("1 minute, due 0, loss 100", leastOf(1, 0, 100), 100);
        Check.same("1000 minutes, due 0, loss 100", leastOf(1000, 0, 100), 100000);
        Check.same("loss 0", leastOf(1000, 0, 0), 0);
    }

    private static void fieldsAreNine() {
        DesertChannels c = new DesertChannels();
        for (int i = 1; i <= 9; i++) {
            Check.same("how many there are", c.field(1000, 0, 100), i);
            Check.same("count", c.count(6), i);
        }
        for (int i = 0; i < 2; i++) {
            Check.same("a tenth", c.field(1000, 0, 100), -1);
        }
        for (int[] wrong : new int[][] {{0, 0, 0}, {1, -1, 0}, {1, 0, 101}}) {
            Check.refused("a wrong tenth", ARGUMENT, () -> c.field(wrong[0], wrong[1], wrong[2]));
        }
        Check.same("nine", c.count(6), 9);
        Check.same("the tenth is none of them", c.least(), 4500000);
        Check.same("there is room again", c.field(1, 0, 0), 1);
    }

    private static void lateByMinutes() {
        Check.same("done when due", leastOf(10, 10, 7), 0);
        Check.same("a minute later", leastOf(10, 9, 7), 7);
        Check.same("a minute ahead", leastOf(10, 11, 7), 0);
        Check.same("far ahead brings nothing in", leastOf(1, 10000, 100, 1, 0, 1), 1);
        Check.same("the latest due, just so", leastOf(1000, 10000, 100), 0);
        DesertChannels c = new DesertChannels();
        for (int i = 1; i <= 9; i++) {
            c.field(1000, 1000 * i, 100);
        }
        Check.same("nine, each done when due", c.least(), 0);
    }

    private static void oneAfterTheOther() {
        Check.same("the second begins when the first is done", leastOf(5, 5, 1, 5, 10, 1), 0);
        Check.same("told the other way", leastOf(5, 10, 1, 5, 5, 1), 0);
        Check.same("both due at once", leastOf(5, 5, 1, 5, 5, 1), 5);
        Check.same("the dear one first", leastOf(5, 5, 1, 5, 5, 2), 5);
        Check.same("the short one first", leastOf(9, 0, 1, 1, 0, 1), 11);
        Check.same("by loss for a minute, not by due", leastOf(10, 0, 1, 10, 1, 100), 20 + 900);
    }

    private static void leastOfAllOrders() {
        // wherever the one that must go last is told, some order has it there
        for (int last = 0; last < 9; last++) {
            DesertChannels c = new DesertChannels();
            for (int i = 0; i < 9; i++) {
                c.field(10, i == last ? 89 : 80, i == last ? 1 : 100);
            }
            Check.same("field " + last + " goes last", c.least(), 1);
        }
        // by due, or by minutes, 31 are lost; by loss 48
        Check.same("by none of their numbers alone", leastOf(4, 4, 3, 6, 7, 5, 2, 2, 4), 29);
    }

    private static void leastForgetsThem() {
        DesertChannels c = new DesertChannels();
        Check.same("of none", c.least(), 0);
        c.field(10, 0, 1);
        c.field(20, 0, 1);
        Check.same("of two", c.least(), 10 + 30);
        Check.same("none are told any more", c.count(6) + " " + c.least(), "0 0");
        Check.same("told anew", c.field(1, 0, 1), 1);
        Check.same("of one", c.least(), 1);
    }

    private static void countsZeroToSeven() {
        DesertChannels c = new DesertChannels();
        for (int what = 0; what <= 7; what++) {
            Check.same("count " + what + " at first", c.count(what), 0);
        }
        for (int what : new int[] {-1, 8, -2, 9, Integer.MAX_VALUE, Integer.MIN_VALUE}) {
            Check.same("count " + what, c.count(what), -1);
        }
        told(c, 0, 0, 0, 0, 0, 0);
        Check.same("told, not dug", c.count(0) + " " + c.count(1) + " " + c.count(4), "1 0 0");
        c.dig(0, 0, 1);
        Check.same("dug", c.count(0) + " " + c.count(1) + " " + c.count(4), "1 1 1");
        for (int i = 1; i < 8; i++) {
            dug(c, 0, 0, 0, 0, 0, 0);
        }
        Check.same("all are dug", c.count(0) + " " + c.count(1) + " " + c.count(4), "8 8 8");
    }
}
