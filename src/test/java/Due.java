/** Counts the calls whose answer is not the one that is due; each test ends with end(). */
final class Due {
    interface Call {
        Object answer();
    }

    interface Deed {
        void run();
    }

    private static int wrong = 0;
    private static int asked = 0;

    private Due() {
    }

    static void is(String what, Object due, Call call) {
        Object got;
        try {
            got = call.answer();
        } catch (RuntimeException e) {
            got = "throws." + e.getClass().getSimpleName();
        }
        same(what, due, got);
    }

    /** A call that answers nothing and is due to throw nothing. */
    static void goes(String what, Deed deed) {
        is(what, "nothing", () -> {
            deed.run();
            return "nothing";
        });
    }

    static void throwing(String what, Class<? extends RuntimeException> due, Deed deed) {
        is(what, "throws." + due.getSimpleName(), () -> {
            deed.run();
            return "nothing";
        });
    }

    static void same(String what, Object due, Object got) {
        asked++;
        if (!due.equals(got)) {
            wrong++;
            System.out.println(what + " answered " + got + ", due is " + due);
        }
    }

    static void end(String test) {
        System.out.println(test + ": " + asked + " asked, " + wrong + " not as due");
        if (wrong != 0 || asked == 0) {
            System.exit(1);
        }
    }
}
