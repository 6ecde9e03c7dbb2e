/** Counts what is as due and prints what is not. */
final class Check {
    private static int right;
    private static int wrong;

    private Check() {
    }

    static void same(String what, long got, long want) {
        tell(got == want, what, Long.toString(got), Long.toString(want));
    }

    static void same(String what, boolean got, boolean want) {
        tell(got == want, what, Boolean.toString(got), Boolean.toString(want));
    }

    static void same(String what, String got, String want) {
        tell(got.equals(want), what, got, want);
    }

    static void refused(String what, Class<? extends RuntimeException> want, Runnable call) {
        String got = "nothing";
        try {
            call.run();
        } catch (RuntimeException e) {
            got = e.getClass().getName();
        }
        tell(got.equals(want.getName()), what + " throws", got, want.getName());
    }

    static void taken(String what, Runnable call) {
        String got = "nothing";
        try {
            call.run();
        } catch (RuntimeException e) {
            got = e.getClass().getName();
        }
        tell(got.equals("nothing"), what + " throws", got, "nothing");
    }

    private static void tell(boolean isRight, String what, String got, String want) {
        if (isRight) {
            right++;
        } else {
            wrong++;
            if (wrong <= 50) {
                System.out.println(what + ": " + got + ", due is " + want);
            }
        }
    }

    static void finish(String name) {
        System.out.println(name + ": " + right + " as due, " + wrong + " not");
        System.exit(wrong == 0 && right > 0 ? 0 : 1);
    }
}
