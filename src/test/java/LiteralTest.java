/** Many made-up runs, each call's answer held against the literal reading of the document. */
final class LiteralTest {
    private static final int RUNS = 1200;
    private static final int CALLS = 80;

    private long state = 20261118L;
    private CrashDesk desk;
    private Literal literal;
    private int run;
    private int[] truth;
    private boolean[] marked;

    public static void main(String[] args) {
        LiteralTest test = new LiteralTest();
        for (test.run = 0; test.run < RUNS; test.run++) {
            test.oneRun();
        }
        Due.end("LiteralTest");
    }

    /** A run begins with a WAY that there is, so that what is told often agrees with some WAY. */
    private void oneRun() {
        desk = new CrashDesk();
        literal = new Literal();
        marked = new boolean[4];
        masses();
        findTruth();
        if (any(4) > 0) {
            for (int s = 0; s < 6; s++) {
                tellSpan(s, run % 9 == 0 ? 30 : 7);
            }
        }
        for (int call = 0; call < CALLS; call++) {
            oneCall();
        }
    }

    private void masses() {
        int[][] pairs = {{10, 10}, {1, 1}, {7, 3}, {12, 8}, {100, 1}, {1, 100}, {2, 1}, {60, 90}, {99, 100}};
        int[] pair = pairs[any(pairs.length)];
        boolean free = any(4) == 0;
        int m = free ? 1 + any(100) : pair[0];
        int w = free ? 1 + any(100) : pair[1];
        both("mass(0, " + m + ")", () -> done(() -> desk.mass(0, m)), () -> done(() -> literal.mass(0, m)));
        both("mass(1, " + w + ")", () -> done(() -> desk.mass(1, w)), () -> done(() -> literal.mass(1, w)));
    }

    private void findTruth() {
        int m = literal.count(3);
        int w = literal.count(4);
        truth = new int[] {20, 15, 4, -6, -4, 8};
        for (int tries = 0; tries < 3000; tries++) {
            int at0 = any(101) - 50;
            int at1 = any(101) - 50;
            int after0 = any(101) - 50;
            int left = m * at0 + w * at1 - m * after0;
            int after1 = left / w;
            if (left % w == 0 && at0 > at1 && after0 <= after1 && after1 <= 50 && after1 >= -50
                && m * at0 * at0 + w * at1 * at1 >= m * after0 * after0 + w * after1 * after1) {
                truth = new int[] {faster(at0), at0, after0, faster(at1), at1, after1};
                return;
            }
        }
    }

    private int faster(int at) {
        int more = any(3) == 0 ? 0 : any(51 - Math.abs(at));
        return at < 0 ? at - more : at + more;
    }

    private void oneCall() {
        int kind = any(34);
        if (kind < 8) {
            tell(kind);
        } else {
            ask(kind);
        }
    }

    private void tell(int kind) {
        if (kind == 0) {
            if (any(9) == 0) {
                masses();
            }
        } else if (kind <= 2) {
            tellSkid();
        } else if (kind == 3) {
            int skid = any(literal.count(0) + 2) - (any(9) == 0 ? 1 : 0);
            boolean is = any(3) > 0;
            both("drop(" + skid + ", " + is + ")", () -> desk.drop(skid, is), () -> literal.drop(skid, is));
        } else if (kind == 4) {
            tellSpan(any(6), 1 + any(20));
        } else if (kind <= 6) {
            tellTale();
        } else if (any(4) == 0) {
            both("hush()", () -> desk.hush(), () -> literal.hush());
        }
    }

    private void tellSkid() {
        int car = any(40) == 0 ? any(5) - 2 : any(2);
        boolean behind = any(2) == 0;
        int[] n = any(20) == 0 ? new int[] {any(2100) - 40, any(2100) - 40, any(160) - 5, any(160) - 5}
            : trueSkid(Math.floorMod(car, 2), behind);
        both("skid(" + car + ", " + behind + ", " + n[0] + ", " + n[1] + ", " + n[2] + ", " + n[3] + ")",
            () -> desk.skid(car, behind, n[0], n[1], n[2], n[3]),
            () -> literal.skid(car, behind, n[0], n[1], n[2], n[3]));
    }

    /** A SKID that may take what is true, or next to nothing where there is such a one already. */
    private int[] trueSkid(int car, boolean behind) {
        int first = truth[car * 3];
        int at = truth[car * 3 + 1];
        int after = truth[car * 3 + 2];
        int taken = behind ? 51 * after * after : 51 * first * first - 51 * at * at;
        int side = car * 2 + (behind ? 1 : 0);
        if (marked[side] && any(9) > 0) {
            return new int[] {0, any(40), 0, any(60)};
        }
        marked[side] = true;
        if (taken % 51 == 0 && any(3) == 0 && taken / 51 <= 2000) {
            return new int[] {taken / 51, taken / 51, 51, 51};
        }
        int grip = 51 + any(99);
        int length = Math.min(2000, taken / grip);
        int slack = any(12);
        return new int[] {Math.max(0, length - any(12)), Math.min(2000, length + slack),
            Math.max(0, grip - any(12)), Math.min(150, grip + any(12))};
    }

    private void tellSpan(int s, int about) {
        int[] n = span(s, about);
        int car = any(60) == 0 ? any(6) - 2 : s / 3;
        int speed = any(60) == 0 ? any(7) - 2 : s % 3;
        both("sure(" + car + ", " + speed + ", " + n[0] + ", " + n[1] + ")",
            () -> done(() -> desk.sure(car, speed, n[0], n[1])),
            () -> done(() -> literal.sure(car, speed, n[0], n[1])));
    }

    private void tellTale() {
        int s = any(6);
        int[] n = span(s, any(6));
        int car = any(60) == 0 ? any(6) - 2 : s / 3;
        int speed = any(60) == 0 ? any(7) - 2 : s % 3;
        both("tale(" + car + ", " + speed + ", " + n[0] + ", " + n[1] + ")",
            () -> desk.tale(car, speed, n[0], n[1]), () -> literal.tale(car, speed, n[0], n[1]));
    }

    private int[] span(int s, int about) {
        if (any(25) == 0) {
            return new int[] {any(110) - 55, any(110) - 55};
        }
        int middle = any(12) == 0 ? any(101) - 50 : truth[s];
        return new int[] {Math.max(-50, middle - any(about + 1)), Math.min(50, middle + any(about + 1))};
    }

    private void ask(int kind) {
        int car = any(40) == 0 ? any(6) - 2 : any(2);
        int speed = any(40) == 0 ? any(7) - 2 : any(3);
        boolean is = any(2) == 0;
        String of = "(" + car + ", " + speed + ", ";
        if (kind < 11) {
            both("ways()", () -> desk.ways(), () -> literal.ways());
        } else if (kind < 17) {
            boolean withTales = any(2) == 0;
            both("span" + of + is + ", " + withTales + ")", () -> desk.span(car, speed, is, withTales),
                () -> literal.span(car, speed, is, withTales));
        } else if (kind < 21) {
            int set = any(8) == 0 ? any(Integer.MAX_VALUE) - any(Integer.MAX_VALUE) : any(1024) & any(1024);
            both("fit(" + set + ")", () -> desk.fit(set), () -> literal.fit(set));
        } else if (kind < 23) {
            both("wrong()", () -> desk.wrong(), () -> literal.wrong());
        } else if (kind < 25) {
            both("which()", () -> desk.which(), () -> literal.which());
        } else if (kind < 27) {
            both("odds()", () -> desk.odds(), () -> literal.odds());
        } else if (kind < 29) {
            askAvoided(car);
        } else if (kind < 30) {
            int skid = any(literal.count(0) + 2) - (any(9) == 0 ? 1 : 0);
            int what = any(6) - (any(9) == 0 ? 1 : 0);
            both("look(" + skid + ", " + what + ")", () -> desk.look(skid, what), () -> literal.look(skid, what));
        } else if (kind < 33) {
            int n = any(9) == 0 ? any(200) - 100 : truth[any(6)] + any(3) - 1;
            both("can" + of + n + ")", () -> desk.can(car, speed, n), () -> literal.can(car, speed, n));
        } else {
            int what = any(7) - 1;
            both("count(" + what + ")", () -> desk.count(what), () -> literal.count(what));
        }
    }

    private void askAvoided(int car) {
        int first = truth[3 * Math.floorMod(car, 2)];
        int grip = any(20) == 0 ? any(160) - 5 : 70 + any(80);
        int room = any(20) == 0 ? any(2100) - 50 : 51 * first * first / Math.max(1, grip)
            + any(20) - 8;
        both("avoided(" + car + ", " + room + ", " + grip + ")", () -> desk.avoided(car, room, grip),
            () -> literal.avoided(car, room, grip));
    }

    private void both(String what, Due.Call ofDesk, Due.Call ofLiteral) {
        Object due;
        try {
            due = ofLiteral.answer();
        } catch (RuntimeException e) {
            due = "throws." + e.getClass().getSimpleName();
        }
        Due.is("run " + run + ": " + what, due, ofDesk);
    }

    private static Object done(Due.Deed deed) {
        deed.run();
        return "nothing";
    }

    /** The same numbers in every run of the test. */
    private int any(int below) {
        state = state * 6364136223846793005L + 1442695040888963407L;
        return (int) ((state >>> 33) % below);
    }
}
