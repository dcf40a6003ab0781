/** Scenes that more than one test begins with, and all that can be asked of a desk. */
final class Scene {
    static final int LOWEST = Integer.MIN_VALUE;
    static final int HIGHEST = Integer.MAX_VALUE;
    static final int[] NO_CARS = {-1, 2, LOWEST, HIGHEST};
    static final int[] NO_SPEEDS = {-1, 3, LOWEST, HIGHEST};
    static final int[] NO_MASSES = {0, 101, -1, LOWEST, HIGHEST};

    /** From a number to another one, not - 50 to low to high to 50. */
    static final int[][] NO_SPANS = {{-51, 50}, {-50, 51}, {-51, -51}, {51, 51}, {1, 0}, {50, -50}, {-49, -50},
        {50, 49}, {LOWEST, 0}, {0, HIGHEST}, {LOWEST, LOWEST}, {HIGHEST, HIGHEST}, {HIGHEST, LOWEST}};

    /** LENGTH from and to, GRIP from and to, with a number that is none or one above the other. */
    static final int[][] NO_SKIDS = {{-1, 0, 0, 0}, {-1, -1, 0, 0}, {0, 2001, 0, 0}, {2001, 2001, 0, 0},
        {1, 0, 0, 0}, {2000, 1999, 0, 0}, {0, 0, -1, 0}, {0, 0, -1, -1}, {0, 0, 0, 151}, {0, 0, 151, 151},
        {0, 0, 1, 0}, {0, 0, 150, 149}, {LOWEST, 0, 0, 0}, {0, HIGHEST, 0, 0}, {HIGHEST, HIGHEST, 0, 0},
        {0, 0, LOWEST, 0}, {0, 0, 0, HIGHEST}, {0, 0, HIGHEST, HIGHEST}, {65536, 65536, 65536, 65536},
        {0, 65536, 0, 65536}, {LOWEST, HIGHEST, LOWEST, HIGHEST}};

    /** Room and GRIP, one of which is none. */
    static final int[][] NO_ROOMS = {{-1, 0}, {2001, 0}, {0, -1}, {0, 151}, {-1, -1}, {2001, 151}, {LOWEST, 0},
        {HIGHEST, 0}, {0, LOWEST}, {0, HIGHEST}, {65536, 65536}, {HIGHEST, HIGHEST}, {LOWEST, LOWEST}};

    private Scene() {
    }

    /**
     * CAR 0 meets CAR 1 with just these AT, both of MASS 10, nothing else told: CAR 0 parts by any
     * whole number from slow up to half of both together, CAR 1 by the rest.
     */
    static CrashDesk meeting(int fast, int slow) {
        CrashDesk x = new CrashDesk();
        x.sure(0, 1, fast, fast);
        x.sure(1, 1, slow, slow);
        return x;
    }

    static CrashDesk withoutWay() {
        return meeting(0, 0);
    }

    /** A SKID that takes just 51 times so much (to 2000). */
    static int skid51(CrashDesk x, int car, boolean behind, int times) {
        return x.skid(car, behind, times, times, 51, 51);
    }

    static void spanIs(String what, CrashDesk x, int car, int speed, int least, int greatest) {
        Due.is(what + ": least of CAR " + car + ", SPEED " + speed, least, () -> x.span(car, speed, false, false));
        Due.is(what + ": greatest of CAR " + car + ", SPEED " + speed, greatest,
            () -> x.span(car, speed, true, false));
    }

    /** A SPEED can be these numbers, told from the least one on, and no other one. */
    static void canBe(String what, CrashDesk x, int car, int speed, int... numbers) {
        int least = numbers[0];
        int greatest = numbers[numbers.length - 1];
        spanIs(what, x, car, speed, least, greatest);
        StringBuilder due = new StringBuilder();
        StringBuilder got = new StringBuilder();
        for (int n : numbers) {
            due.append(n).append(' ');
        }
        for (int n = least - 1; n <= greatest + 1; n++) {
            if (x.can(car, speed, n)) {
                got.append(n).append(' ');
            }
        }
        Due.same(what + ": what CAR " + car + ", SPEED " + speed + " can be", due.toString(), got.toString());
    }

    /** All that can be asked of a desk, by some 190 calls, none of which tells it anything. */
    static String all(CrashDesk x) {
        StringBuilder all = new StringBuilder();
        counts(x, all);
        for (int car = 0; car < 2; car++) {
            for (int speed = 0; speed < 3; speed++) {
                speedOf(x, car, speed, all);
            }
            for (int room : new int[] {0, 50, 51, 2000}) {
                int c = car;
                ask(all, "avoided", () -> x.avoided(c, room, 100));
            }
        }
        for (int set = 1; set <= 1024; set *= 2) {
            all.append(" fit ").append(x.fit(set)).append(x.fit(set - 1));
        }
        all.append(" ways ").append(x.ways()).append(" wrong ").append(x.wrong());
        all.append(" which ").append(x.which()).append(" odds ").append(x.odds());
        return all.toString();
    }

    private static void counts(CrashDesk x, StringBuilder all) {
        for (int what = -1; what < 6; what++) {
            all.append(" count ").append(x.count(what));
        }
        for (int skid = 0; skid < 13; skid++) {
            for (int what = 0; what < 5; what++) {
                int s = skid;
                int w = what;
                ask(all, "look", () -> x.look(s, w));
            }
        }
    }

    private static void speedOf(CrashDesk x, int car, int speed, StringBuilder all) {
        for (int kind = 0; kind < 4; kind++) {
            int k = kind;
            ask(all, "span", () -> x.span(car, speed, k % 2 == 1, k > 1));
        }
        for (int n : new int[] {-50, -49, -10, -1, 0, 1, 5, 10, 49, 50}) {
            all.append(" can ").append(x.can(car, speed, n));
        }
    }

    private static void ask(StringBuilder all, String what, Due.Call call) {
        all.append(' ').append(what).append(' ');
        try {
            all.append(call.answer());
        } catch (RuntimeException e) {
            all.append("throws.").append(e.getClass().getSimpleName());
        }
    }
}
