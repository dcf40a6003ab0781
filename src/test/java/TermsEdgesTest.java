import java.util.NoSuchElementException;

/** Each sentence of 'Terms' that names a bound: the last number on each side, and the next one beyond. */
final class TermsEdgesTest {
    private static final Class<IndexOutOfBoundsException> INDEX = IndexOutOfBoundsException.class;
    private static final Class<IllegalArgumentException> ARGUMENT = IllegalArgumentException.class;
    private static final Class<UnsupportedOperationException> FULL = UnsupportedOperationException.class;
    private static final Class<NoSuchElementException> NO_SUCH = NoSuchElementException.class;

    public static void main(String[] args) {
        lineGoesBothWays();
        cars();
        massBounds();
        speedBounds();
        wayKeepsToSpeedBounds();
        skidsAtMost();
        lengthBounds();
        gripBounds();
        skidTakes();
        skidsTakeTogether();
        firstByNoSkid();
        firstOnTheSideOfAt();
        firstAtTheBounds();
        afterBySkidsBehind();
        afterWithoutSkidBehind();
        pushesAreKept();
        strengthIsNeverGained();
        theyMeetAndPart();
        speedsLieWithin();
        spanBearsOnItsOwnSpeed();
        latestSpanCounts();
        talesAtMost();
        taleBounds();
        fitOfSets();
        fewestFalse();
        whichOfLeastBits();
        leastAndGreatest();
        oddsOfNone();
        oddsOfFirstAndLast();
        roomBounds();
        roomIsJustEnough();
        byAllBySomeByNone();
        waysFromNoneToAll();
        noWayIsThrown();
        call512();
        Due.end("TermsEdgesTest");
    }

    private static CrashDesk wide() {
        CrashDesk x = new CrashDesk();
        x.skid(0, false, 0, 2000, 0, 150);
        x.skid(1, false, 0, 2000, 0, 150);
        return x;
    }

    /** "all goes along one line, one way above 0, the other one below" */
    private static void lineGoesBothWays() {
        Scene.canBe("above 0", Scene.meeting(10, 7), 0, 2, 7, 8);
        Scene.canBe("below 0", Scene.meeting(-7, -10), 0, 2, -10, -9);
        Scene.canBe("below 0", Scene.meeting(-7, -10), 1, 2, -8, -7);
        Scene.canBe("over 0", Scene.meeting(1, -1), 0, 2, -1, 0);
        Scene.canBe("over 0", Scene.meeting(1, -1), 1, 2, 0, 1);
    }

    /** "CARS 0 and 1"; "there is no such CAR" */
    private static void cars() {
        CrashDesk x = new CrashDesk();
        for (int car = 0; car < 2; car++) {
            int c = car;
            Due.goes("mass of CAR " + c, () -> x.mass(c, 10));
            Due.is("skid of CAR " + c, c, () -> x.skid(c, false, 0, 0, 0, 0));
            Due.goes("sure of CAR " + c, () -> x.sure(c, 1, -50, 50));
            Due.is("tale of CAR " + c, c, () -> x.tale(c, 1, -50, 50));
            Due.is("span of CAR " + c, -49 - c, () -> x.span(c, 1, false, true));
            Due.is("avoided by CAR " + c, 2, () -> x.avoided(c, 2000, 150));
            Due.is("can of CAR " + c, true, () -> x.can(c, 1, 0));
        }
        for (int car : Scene.NO_CARS) {
            Due.throwing("mass of CAR " + car, INDEX, () -> x.mass(car, 10));
            Due.throwing("skid of CAR " + car, INDEX, () -> x.skid(car, false, 0, 0, 0, 0));
            Due.throwing("sure of CAR " + car, INDEX, () -> x.sure(car, 1, -50, 50));
            Due.throwing("tale of CAR " + car, INDEX, () -> x.tale(car, 1, -50, 50));
            Due.throwing("span of CAR " + car, INDEX, () -> x.span(car, 1, false, true));
            Due.throwing("avoided by CAR " + car, INDEX, () -> x.avoided(car, 2000, 150));
            Due.throwing("can of CAR " + car, INDEX, () -> x.can(car, 1, 0));
        }
    }

    /** "MASS (1 to 100)" */
    private static void massBounds() {
        for (int car = 0; car < 2; car++) {
            int c = car;
            for (int n : new int[] {1, 2, 99, 100}) {
                CrashDesk x = new CrashDesk();
                Due.goes("MASS " + n, () -> x.mass(c, n));
                Due.is("MASS told", n, () -> x.count(3 + c));
                Due.is("MASS of the other CAR", 10, () -> x.count(4 - c));
                for (int none : Scene.NO_MASSES) {
                    Due.throwing("MASS " + none, ARGUMENT, () -> x.mass(c, none));
                }
                Due.is("MASS after what is none", n, () -> x.count(3 + c));
            }
        }
        for (int n : new int[] {1, 2, 3, 97, 99, 100}) {
            CrashDesk even = new CrashDesk();
            even.mass(0, n);
            even.mass(1, n);
            Due.is("WAYS of even MASSES " + n, 89625L, even::ways);
            even.mass(1, n < 50 ? 2 * n : n);
            even.mass(0, n < 50 ? n : n / 2);
            even.sure(0, 1, 9, 9);
            even.sure(1, 1, 0, 0);
            Due.is("half as much: 3 to 6 pushes; or no whole push", n < 50 || n == 100 ? 4L : 0L, even::ways);
        }
        // 100 to 1: CAR 0 loses 1 with each push, CAR 1 gains 100.
        CrashDesk x = Scene.meeting(50, -50);
        x.mass(0, 100);
        x.mass(1, 1);
        Due.is("100 and 1, a gap of 100: (49, 50) alone", 1L, x::ways);
        Scene.spanIs("100 and 1", x, 0, 2, 49, 49);
        Scene.spanIs("100 and 1", x, 1, 2, 50, 50);
        x.mass(0, 1);
        x.mass(1, 100);
        Due.is("1 and 100, a gap of 100: (-50, -49) alone", 1L, x::ways);
        Scene.spanIs("1 and 100", x, 0, 2, -50, -50);
        Scene.spanIs("1 and 100", x, 1, 2, -49, -49);
    }

    /** "SPEEDS, whole numbers from - 50 to 50: of each CAR FIRST, AT, AFTER" */
    private static void speedBounds() {
        for (int speed = 0; speed < 3; speed++) {
            int s = speed;
            CrashDesk x = new CrashDesk();
            for (int car = 0; car < 2; car++) {
                int c = car;
                Due.goes("sure - 50 to 50 of SPEED " + s, () -> x.sure(c, s, -50, 50));
                Due.is("tale - 50 of SPEED " + s, 2 * c, () -> x.tale(c, s, -50, -50));
                Due.is("tale 50 of SPEED " + s, 2 * c + 1, () -> x.tale(c, s, 50, 50));
                Due.is("can 0 of SPEED " + s, true, () -> x.can(c, s, 0));
                Due.goes("span of SPEED " + s, () -> x.span(c, s, true, false));
            }
        }
        CrashDesk x = new CrashDesk();
        for (int speed : Scene.NO_SPEEDS) {
            for (int car = 0; car < 2; car++) {
                int c = car;
                Due.throwing("sure of SPEED " + speed, INDEX, () -> x.sure(c, speed, 0, 0));
                Due.throwing("tale of SPEED " + speed, INDEX, () -> x.tale(c, speed, 0, 0));
                Due.throwing("span of SPEED " + speed, INDEX, () -> x.span(c, speed, true, false));
                Due.throwing("can of SPEED " + speed, INDEX, () -> x.can(c, speed, 0));
            }
        }
    }

    /** "SPEEDS, whole numbers from - 50 to 50": a WAY has no other ones. */
    private static void wayKeepsToSpeedBounds() {
        CrashDesk x = wide();
        Scene.spanIs("CAR 0 FIRST", x, 0, 0, -50, 50);
        Scene.spanIs("CAR 0 AT: CAR 1 is below it", x, 0, 1, -49, 50);
        Scene.spanIs("CAR 0 AFTER", x, 0, 2, -50, 49);
        Scene.spanIs("CAR 1 FIRST", x, 1, 0, -50, 50);
        Scene.spanIs("CAR 1 AT: CAR 0 is above it", x, 1, 1, -50, 49);
        Scene.spanIs("CAR 1 AFTER", x, 1, 2, -49, 50);
        // 3 to 1, CAR 0 at 50: CAR 1 gains 3 with each push.
        CrashDesk up = Scene.meeting(50, 38);
        up.mass(0, 3);
        up.mass(1, 1);
        Scene.canBe("47 and 50, for 53 and 56 are no SPEEDS", up, 1, 2, 47, 50);
        up.sure(1, 1, 39, 39);
        Scene.canBe("48, for 51 is no SPEED", up, 1, 2, 48);
        CrashDesk down = Scene.meeting(-38, -50);
        down.mass(0, 1);
        down.mass(1, 3);
        Scene.canBe("- 47 and - 50", down, 0, 2, -50, -47);
        down.sure(0, 1, -39, -39);
        Scene.canBe("- 48, for - 51 is no SPEED", down, 0, 2, -48);
    }

    /** "SKIDS (at most 12, numbered from 0 on)"; "there are 12" */
    private static void skidsAtMost() {
        CrashDesk x = new CrashDesk();
        for (int told = 0; told < 12; told++) {
            int next = told;
            Due.throwing("no SKID " + next + " yet", INDEX, () -> x.look(next, 0));
            Due.throwing("no SKID " + next + " yet to drop", INDEX, () -> x.drop(next, true));
            Due.is("SKID " + next, next, () -> x.skid(next % 2, next % 4 < 2, next, next + 1, 2, 3));
            Due.is("SKID " + next + " is there", 2 * next, () -> x.look(next, 2));
        }
        Due.throwing("SKID 12", FULL, () -> x.skid(0, true, 0, 0, 0, 0));
        Due.throwing("SKID 12 to look at", INDEX, () -> x.look(12, 0));
        Due.throwing("SKID 12 to drop", INDEX, () -> x.drop(12, true));
        for (int skid = 0; skid < 12; skid++) {
            int s = skid;
            Due.is("SKID " + s + " is dropped", true, () -> x.drop(s, true));
        }
        Due.throwing("SKID 12, though none counts", FULL, () -> x.skid(1, false, 2000, 2000, 150, 150));
        Due.is("SKIDS", 12, () -> x.count(0));
        Due.is("that count", 0, () -> x.count(1));
        Due.is("the last one is as it was told", 36, () -> x.look(11, 3));
    }

    /** "LENGTH from one number to another one (0 to 2000)" */
    private static void lengthBounds() {
        int[][] some = {{0, 0}, {0, 1}, {0, 2000}, {1999, 2000}, {2000, 2000}, {7, 7}, {0, 1999}};
        skidBounds(some, new int[][] {{-1, 0}, {-1, -1}, {0, 2001}, {2000, 2001}, {2001, 2001}, {1, 0},
            {2000, 1999}, {2000, 0}, {Scene.LOWEST, 0}, {0, Scene.HIGHEST}}, true);
    }

    /** "GRIP from one to another one (0 to 150)" */
    private static void gripBounds() {
        int[][] some = {{0, 0}, {0, 1}, {0, 150}, {149, 150}, {150, 150}, {7, 7}, {0, 149}};
        skidBounds(some, new int[][] {{-1, 0}, {-1, -1}, {0, 151}, {150, 151}, {151, 151}, {1, 0},
            {150, 149}, {150, 0}, {Scene.LOWEST, 0}, {0, Scene.HIGHEST}}, false);
    }

    private static void skidBounds(int[][] some, int[][] none, boolean isLength) {
        String what = isLength ? "LENGTH " : "GRIP ";
        CrashDesk x = new CrashDesk();
        for (int i = 0; i < some.length; i++) {
            int number = i;
            int from = some[i][0];
            int to = some[i][1];
            Due.is(what + from + " to " + to, number,
                () -> isLength ? x.skid(0, false, from, to, 1, 2) : x.skid(0, false, 1, 2, from, to));
            Due.is(what + from + " takes at least", from, () -> x.look(number, 2));
            Due.is(what + to + " takes at most", 2 * to, () -> x.look(number, 3));
        }
        for (int[] n : none) {
            Due.throwing(what + n[0] + " to " + n[1], ARGUMENT,
                () -> {
                    if (isLength) {
                        x.skid(0, false, n[0], n[1], 1, 2);
                    } else {
                        x.skid(0, false, 1, 2, n[0], n[1]);
                    }
                });
        }
        Due.is("SKIDS told", some.length, () -> x.count(0));
    }

    /** "any whole number from least LENGTH times least GRIP to greatest LENGTH times greatest GRIP" */
    private static void skidTakes() {
        CrashDesk look = new CrashDesk();
        look.skid(0, false, 0, 0, 0, 0);
        look.skid(0, false, 2000, 2000, 150, 150);
        look.skid(0, false, 0, 2000, 0, 150);
        look.skid(0, false, 3, 5, 7, 11);
        int[] least = {0, 300000, 0, 21};
        int[] greatest = {0, 300000, 300000, 55};
        for (int skid = 0; skid < 4; skid++) {
            int s = skid;
            Due.is("least of SKID " + s, least[s], () -> look.look(s, 2));
            Due.is("greatest of SKID " + s, greatest[s], () -> look.look(s, 3));
        }
        // AT is 0, so FIRST 10 takes 5100, FIRST 1 takes 51.
        CrashDesk just = Scene.meeting(0, -1);
        just.skid(0, false, 51, 51, 100, 100);
        Scene.canBe("just 5100", just, 0, 0, 10);
        CrashDesk to = Scene.meeting(0, -1);
        to.skid(0, false, 0, 51, 0, 100);
        Scene.canBe("0 to 5100", to, 0, 0, 0, 1, 2, 3, 4, 5, 6, 7, 8, 9, 10);
        CrashDesk from = Scene.meeting(0, -1);
        from.skid(0, false, 51, 2000, 100, 150);
        Scene.spanIs("5100 to 300000", from, 0, 0, 10, 50);
        CrashDesk less = Scene.meeting(0, -1);
        less.skid(0, false, 1, 5, 10, 10);
        Due.is("10 to 50 is less than 51", 0L, less::ways);
        CrashDesk more = Scene.meeting(0, -1);
        more.skid(0, false, 52, 101, 1, 2);
        Due.is("52 to 202 is more than 51, less than 204", 0L, more::ways);
        CrashDesk inside = Scene.meeting(0, -1);
        inside.skid(0, false, 7, 8, 7, 8);
        Scene.canBe("49 to 64: 51 is no LENGTH times GRIP of it, but a number between", inside, 0, 0, 1);
    }

    /** "is the sum of what its SKIDS ahead take, in some giving" */
    private static void skidsTakeTogether() {
        CrashDesk x = Scene.meeting(0, -1);
        x.skid(0, false, 0, 50, 0, 100);
        x.skid(0, false, 0, 99, 0, 1);
        Scene.spanIs("0 to 5099", x, 0, 0, 0, 9);
        x.skid(0, false, 0, 1, 0, 1);
        Scene.spanIs("0 to 5100", x, 0, 0, 0, 10);
        x.skid(0, false, 51, 51, 36, 36);
        Scene.spanIs("1836 to 6936", x, 0, 0, 6, 11);
        x.skid(0, false, 1, 1, 1, 1);
        Scene.spanIs("1837 to 6937", x, 0, 0, 7, 11);
        CrashDesk most = Scene.meeting(1, 0);
        for (int i = 0; i < 12; i++) {
            most.skid(0, false, 0, 2000, 0, 150);
        }
        Scene.spanIs("twelve to 300000 each", most, 0, 0, 1, 50);
        CrashDesk all = Scene.meeting(0, -1);
        for (int i = 0; i < 12; i++) {
            Scene.skid51(all, 0, false, 12);
        }
        Scene.canBe("twelve with 51 times 12 each are 51 times 144", all, 0, 0, 12);
    }

    /** (a) "51 times FIRST times FIRST less 51 times AT times AT is the sum": without a SKID 0 */
    private static void firstByNoSkid() {
        CrashDesk x = Scene.meeting(10, -3);
        Scene.canBe("FIRST is AT", x, 0, 0, 10);
        Scene.canBe("FIRST is AT", x, 1, 0, -3);
        x.skid(1, true, 0, 2000, 0, 150);
        Scene.canBe("a SKID behind gives FIRST nothing", x, 1, 0, -3);
        Scene.canBe("AT 0", Scene.meeting(0, -1), 0, 0, 0);
        CrashDesk none = Scene.meeting(10, -3);
        none.skid(0, false, 0, 2000, 0, 0);
        Scene.canBe("a SKID that takes 0", none, 0, 0, 10);
        none.skid(0, false, 1, 1, 1, 1);
        Due.is("a SKID that takes 1", 0L, none::ways);
    }

    /** (a) "FIRST is above 0 if AT is, below 0 if AT is, and 0 or above if AT is 0" */
    private static void firstOnTheSideOfAt() {
        for (int at = -1; at <= 1; at++) {
            CrashDesk x = Scene.meeting(at, -50);
            x.skid(0, false, 0, 2000, 0, 150);
            Scene.spanIs("CAR 0 AT " + at, x, 0, 0, at < 0 ? -50 : at, at < 0 ? -1 : 50);
            Due.is("0 at AT " + at, at == 0, () -> x.can(0, 0, 0));
            CrashDesk y = Scene.meeting(50, at);
            y.skid(1, false, 0, 2000, 0, 150);
            Scene.spanIs("CAR 1 AT " + at, y, 1, 0, at < 0 ? -50 : at, at < 0 ? -1 : 50);
            Due.is("0 at AT " + at, at == 0, () -> y.can(1, 0, 0));
        }
        // AT - 1, 0 or 1 and one number to take: FIRST 5 from 0, from 1 and - 1 none.
        CrashDesk z = new CrashDesk();
        z.sure(0, 1, -1, 1);
        z.sure(1, 1, -2, -2);
        Scene.skid51(z, 0, false, 25);
        Scene.canBe("51 times 25", z, 0, 1, 0);
        Scene.canBe("51 times 25", z, 0, 0, 5);
        z.drop(0, true);
        Scene.skid51(z, 0, false, 24);
        Scene.canBe("51 times 24", z, 0, 1, -1, 1);
        Scene.canBe("51 times 24", z, 0, 0, -5, 5);
    }

    /** "SPEEDS, whole numbers from - 50 to 50" again: FIRST, however much the SKIDS take */
    private static void firstAtTheBounds() {
        CrashDesk up = Scene.meeting(0, -1);
        Scene.skid51(up, 0, false, 2000);
        Scene.skid51(up, 0, false, 500);
        Scene.canBe("51 times 2500", up, 0, 0, 50);
        Scene.skid51(up, 0, false, 101);
        Due.is("51 times 2601: 51 is no SPEED", 0L, up::ways);
        CrashDesk down = Scene.meeting(0, -1);
        Scene.skid51(down, 1, false, 2000);
        Scene.skid51(down, 1, false, 499);
        Scene.canBe("51 times 2500", down, 1, 0, -50);
        Scene.skid51(down, 1, false, 101);
        Due.is("51 times 2601: - 51 is no SPEED", 0L, down::ways);
        CrashDesk least = Scene.meeting(50, 49);
        least.skid(0, false, 0, 2000, 0, 150);
        Scene.canBe("FIRST is 50 if AT is", least, 0, 0, 50);
        least.skid(0, false, 1, 1, 1, 1);
        Due.is("AT 50 after a SKID that takes 1", 0L, least::ways);
    }

    /** (b) "51 times AFTER times AFTER is the sum of what its SKIDS behind take, in some giving" */
    private static void afterBySkidsBehind() {
        CrashDesk to = Scene.meeting(10, 0);
        to.skid(0, true, 0, 50, 0, 9);
        to.skid(0, true, 0, 8, 0, 1);
        Scene.canBe("0 to 458", to, 0, 2, 0, 1, 2);
        to.skid(0, true, 0, 1, 0, 1);
        Scene.canBe("0 to 459", to, 0, 2, 0, 1, 2, 3);
        CrashDesk from = Scene.meeting(10, 0);
        from.skid(0, true, 51, 2000, 9, 150);
        Scene.canBe("459 on", from, 0, 2, 3, 4, 5);
        from.skid(0, true, 1, 1, 1, 1);
        Scene.canBe("460 on", from, 0, 2, 4, 5);
        CrashDesk sides = Scene.meeting(20, -10);
        Scene.skid51(sides, 0, true, 25);
        Scene.canBe("on both sides", sides, 0, 2, -5, 5);
        Scene.canBe("the other CAR", sides, 1, 2, 5, 15);
        Scene.skid51(sides, 1, true, 225);
        Scene.canBe("both CARS", sides, 0, 2, -5);
        sides.skid(1, false, 0, 2000, 0, 150);
        Due.is("a SKID ahead takes nothing of AFTER", 41L, sides::ways);
        CrashDesk last = Scene.meeting(50, -50);
        Scene.skid51(last, 1, true, 2000);
        Scene.skid51(last, 1, true, 500);
        Scene.canBe("51 times 2500", last, 1, 2, 50);
        Scene.skid51(last, 0, true, 2000);
        Scene.skid51(last, 0, true, 500);
        Scene.canBe("51 times 2500", last, 0, 2, -50);
        Scene.skid51(last, 1, true, 101);
        Due.is("51 times 2601", 0L, last::ways);
    }

    /** (b) "but without a SKID behind nothing is asked of AFTER" */
    private static void afterWithoutSkidBehind() {
        CrashDesk x = Scene.meeting(10, 0);
        Scene.canBe("no SKID", x, 0, 2, 0, 1, 2, 3, 4, 5);
        x.skid(0, false, 0, 0, 0, 0);
        Scene.canBe("a SKID ahead", x, 0, 2, 0, 1, 2, 3, 4, 5);
        x.skid(1, true, 51, 51, 49, 49);
        Scene.canBe("a SKID behind of the other CAR: 7", x, 0, 2, 3);
        x.drop(1, true);
        x.skid(0, true, 0, 2000, 0, 0);
        Scene.canBe("a SKID behind that takes 0", x, 0, 2, 0);
        x.drop(2, true);
        Scene.canBe("it counts no more", x, 0, 2, 0, 1, 2, 3, 4, 5);
    }

    /** (c) "MASS times AT of both CARS together is MASS times AFTER of both together" */
    private static void pushesAreKept() {
        // 1 and 3, 8 and 0: 8 in all, so parted at (2, 2), (-1, 3), (-4, 4).
        CrashDesk x = Scene.meeting(8, 0);
        x.mass(0, 1);
        x.mass(1, 3);
        Scene.canBe("1 and 3", x, 0, 2, -4, -1, 2);
        Scene.canBe("1 and 3", x, 1, 2, 2, 3, 4);
        int[][] pairs = {{2, 2, 1}, {-1, 3, 1}, {-4, 4, 1}, {1, 2, 0}, {-2, 3, 0}, {0, 3, 0}, {-3, 4, 0}, {2, 3, 0}};
        for (int[] n : pairs) {
            x.sure(0, 2, n[0], n[0]);
            x.sure(1, 2, n[1], n[1]);
            Due.is("parted at " + n[0] + " and " + n[1], (long) n[2], x::ways);
        }
    }

    /** (d) "not less than": as much is let through, one push more is not. */
    private static void strengthIsNeverGained() {
        CrashDesk x = Scene.meeting(8, 0);
        x.mass(0, 1);
        x.mass(1, 3);
        x.sure(0, 2, -50, -4);
        Scene.canBe("64 before, 64 behind", x, 0, 2, -4);
        x.sure(0, 2, -50, -5);
        Due.is("(-7, 5): 64 before, 124 behind", 0L, x::ways);
        CrashDesk y = Scene.meeting(10, 0);
        Scene.canBe("(0, 10) gains nothing, (-1, 11) would", y, 0, 2, 0, 1, 2, 3, 4, 5);
        Scene.canBe("(0, 10) gains nothing, (-1, 11) would", y, 1, 2, 5, 6, 7, 8, 9, 10);
        // 2 and 3, 9 and 0: each push takes 3 and gives 2; no strength is lost by 3.6 pushes.
        CrashDesk z = Scene.meeting(9, 0);
        z.mass(0, 2);
        z.mass(1, 3);
        Scene.canBe("2 and 3 pushes of 3.6", z, 0, 2, 0, 3);
        z.sure(0, 1, 3, 3);
        Scene.canBe("one push closes 5, of 3 to 6", z, 0, 2, 0);
        z.sure(0, 1, 2, 2);
        Due.is("one push closes 5, of 2 to 4: (-1, 2) would gain 6", 0L, z::ways);
        z.sure(0, 1, 5, 5);
        Scene.canBe("one push or two close 5 to 10", z, 0, 2, -1, 2);
    }

    /** (e) "AT of CAR 0 is above AT of CAR 1, and AFTER of CAR 0 is not above AFTER of CAR 1" */
    private static void theyMeetAndPart() {
        Scene.canBe("1 above", Scene.meeting(1, 0), 0, 2, 0);
        Due.is("as fast", 0L, () -> Scene.meeting(0, 0).ways());
        Due.is("1 below", 0L, () -> Scene.meeting(0, 1).ways());
        Due.is("as fast at - 50", 0L, () -> Scene.meeting(-50, -50).ways());
        Due.is("as fast at 50", 0L, () -> Scene.meeting(50, 50).ways());
        Due.is("the widest gap", 51L, () -> Scene.meeting(50, -50).ways());
        Due.is("the widest gap the other way", 0L, () -> Scene.meeting(-50, 50).ways());
        CrashDesk x = Scene.meeting(10, 0);
        x.sure(0, 2, 5, 50);
        Scene.canBe("parted at the same SPEED", x, 1, 2, 5);
        x.sure(0, 2, 6, 50);
        Due.is("(6, 4): CAR 0 through CAR 1", 0L, x::ways);
        CrashDesk odd = Scene.meeting(11, 0);
        Scene.canBe("(5, 6) at last", odd, 0, 2, 0, 1, 2, 3, 4, 5);
    }

    /** (f) "each SPEED lies within what was told of it (from - 50 to 50 at first)" */
    private static void speedsLieWithin() {
        for (int car = 0; car < 2; car++) {
            for (int speed = 0; speed < 3; speed++) {
                CrashDesk x = wide();
                x.sure(car, speed, -7, 12);
                Scene.spanIs("- 7 to 12", x, car, speed, -7, 12);
                x.sure(car, speed, -7, -7);
                Scene.canBe("just - 7", x, car, speed, -7);
                x.sure(car, speed, 0, 0);
                Scene.canBe("just 0", x, car, speed, 0);
                x.sure(car, speed, 11, 12);
                Scene.canBe("11 and 12", x, car, speed, 11, 12);
                x.sure(car, speed, -50, 50);
                Due.is("as at first", wide().ways(), x::ways);
            }
        }
        int[][] last = {{0, 0, -50, 50}, {0, 1, -49, 50}, {0, 2, -50, 49}, {1, 0, -50, 50}, {1, 1, -50, 49},
            {1, 2, -49, 50}};
        for (int[] n : last) {
            CrashDesk x = wide();
            x.sure(n[0], n[1], -50, -49);
            Scene.spanIs("at the bottom", x, n[0], n[1], n[2], -49);
            x.sure(n[0], n[1], 49, 50);
            Scene.spanIs("at the top", x, n[0], n[1], 49, n[3]);
            x.sure(n[0], n[1], -50, -50);
            Due.is("- 50 alone", n[2] == -50, () -> x.ways() > 0);
            x.sure(n[0], n[1], 50, 50);
            Due.is("50 alone", n[3] == 50, () -> x.ways() > 0);
        }
    }

    /** (f) again: what is told of one SPEED leaves the other ones alone, but for what a WAY asks. */
    private static void spanBearsOnItsOwnSpeed() {
        CrashDesk x = Scene.meeting(10, 0);
        x.sure(0, 2, 0, 5);
        x.sure(1, 2, 5, 10);
        int[][] due = {{10, 10}, {10, 10}, {0, 5}, {0, 0}, {0, 0}, {5, 10}};
        for (int s = 0; s < 6; s++) {
            Scene.spanIs("SPANS of AFTER alone", x, s / 3, s % 3, due[s][0], due[s][1]);
        }
        x.sure(0, 0, 10, 10);
        x.sure(1, 0, 0, 0);
        for (int s = 0; s < 6; s++) {
            Scene.spanIs("just what it was", x, s / 3, s % 3, due[s][0], due[s][1]);
        }
        CrashDesk y = Scene.meeting(-1, -40);
        y.skid(0, false, 51, 51, 0, 99);
        y.skid(1, false, 51, 51, 0, 81);
        y.sure(0, 0, -10, -10);
        y.sure(1, 0, -41, -41);
        y.sure(0, 2, -40, -40);
        y.sure(1, 2, -1, -1);
        int[] one = {-10, -1, -40, -41, -40, -1};
        for (int s = 0; s < 6; s++) {
            Scene.spanIs("each of another number", y, s / 3, s % 3, one[s], one[s]);
        }
        // 100 to 50: CAR 0 loses 1 with each push, CAR 1 gains 2.
        CrashDesk z = Scene.meeting(50, 40);
        z.mass(0, 100);
        z.mass(1, 50);
        z.sure(0, 2, 45, 46);
        Scene.canBe("(46, 48) and (45, 50)", z, 1, 2, 48, 50);
        z.sure(0, 2, 45, 45);
        Scene.canBe("(45, 50)", z, 1, 2, 50);
        z.sure(0, 2, 47, 50);
        Due.is("three pushes close 9 of 10", 0L, z::ways);
    }

    /** "from one number to another one (told; the latest telling counts)" */
    private static void latestSpanCounts() {
        CrashDesk x = Scene.meeting(10, 0);
        x.sure(0, 2, 0, 2);
        Scene.canBe("0 to 2", x, 0, 2, 0, 1, 2);
        x.sure(0, 2, 3, 4);
        Scene.canBe("3 to 4, with nothing in common", x, 0, 2, 3, 4);
        x.sure(0, 2, 4, 9);
        Scene.canBe("4 to 9, with something in common", x, 0, 2, 4, 5);
        x.sure(0, 2, -50, 50);
        Scene.canBe("wider again", x, 0, 2, 0, 1, 2, 3, 4, 5);
        Due.throwing("no SPAN", ARGUMENT, () -> x.sure(0, 2, 3, 2));
        Scene.canBe("the latest that was told", x, 0, 2, 0, 1, 2, 3, 4, 5);
        x.sure(0, 2, 6, 6);
        Due.is("none of it", 0L, x::ways);
        x.sure(0, 2, 5, 5);
        Due.is("and again", 1L, x::ways);
    }

    /** "TALES (at most 10, numbered from 0 on)"; "there are 10" */
    private static void talesAtMost() {
        CrashDesk x = Scene.meeting(10, 0);
        for (int told = 0; told < 10; told++) {
            int next = told;
            Due.is("TALES", next, () -> x.count(2));
            Due.is("TALE " + next + " is not told yet", true, () -> x.fit(1 << next));
            Due.is("TALE " + next, next, () -> x.tale(next % 2, next % 3, 11, 50));
            Due.is("TALE " + next + " is told", false, () -> x.fit(1 << next));
        }
        Due.throwing("TALE 10", FULL, () -> x.tale(0, 0, 0, 0));
        Due.is("TALES", 10, () -> x.count(2));
        Due.is("there is no TALE 10", true, () -> x.fit(1 << 10));
        x.hush();
        Due.is("TALE 0 again", 0, () -> x.tale(0, 0, 0, 0));
    }

    /** "that a SPEED was from one number to another one" */
    private static void taleBounds() {
        // AFTER of CAR 0 is 0 to 5.
        int[][] all = {{5, 50, 1}, {6, 50, 0}, {-50, 0, 1}, {-50, -1, 0}, {0, 0, 1}, {5, 5, 1}, {-1, -1, 0}, {6, 6, 0},
            {-50, 50, 1}, {-50, -50, 0}, {50, 50, 0}};
        for (int[] n : all) {
            CrashDesk x = Scene.meeting(10, 0);
            Due.is("TALE", 0, () -> x.tale(0, 2, n[0], n[1]));
            Due.is("fit of " + n[0] + " to " + n[1], n[2] == 1, () -> x.fit(1));
            Due.is("wrong of " + n[0] + " to " + n[1], 1 - n[2], x::wrong);
        }
        // The first and the last number that a SPEED has: each SPEED here is - 50 or 50.
        CrashDesk ends = Scene.meeting(50, -50);
        ends.sure(0, 2, -50, -50);
        for (int s = 0; s < 6; s++) {
            boolean top = s < 2 || s == 5;
            int car = s / 3;
            int speed = s % 3;
            ends.tale(car, speed, -50, 49);
            ends.tale(car, speed, -49, 50);
            ends.tale(car, speed, top ? 50 : -50, top ? 50 : -50);
            Due.is("- 50 to 49", !top, () -> ends.fit(1));
            Due.is("- 49 to 50", top, () -> ends.fit(2));
            Due.is("the very number", true, () -> ends.fit(4));
            Due.is("one of the three is false", top ? 1 : 2, ends::which);
            ends.hush();
        }
        CrashDesk x = new CrashDesk();
        for (int[] n : Scene.NO_SPANS) {
            Due.throwing("TALE " + n[0] + " to " + n[1], ARGUMENT, () -> x.tale(0, 2, n[0], n[1]));
            Due.throwing("SPAN " + n[0] + " to " + n[1], ARGUMENT, () -> x.sure(0, 2, n[0], n[1]));
        }
        Due.is("no TALE was told", 0, () -> x.count(2));
    }

    /** "FIT of a set of TALES: whether there is a WAY by which all of them are so" */
    private static void fitOfSets() {
        CrashDesk x = Scene.meeting(10, 0);
        for (int n = 0; n < 10; n++) {
            x.tale(0, 2, n - 4, n);
        }
        // TALE n is so from n - 4 to n; AFTER is 0 to 5.
        Due.is("fit of none", true, () -> x.fit(0));
        Due.is("0 to 4: 0", true, () -> x.fit(31));
        Due.is("0 to 5: none", false, () -> x.fit(63));
        Due.is("1 to 5: 1", true, () -> x.fit(62));
        Due.is("5 to 9: 5", true, () -> x.fit(992));
        Due.is("4 and 9: none", false, () -> x.fit(528));
        Due.is("all", false, () -> x.fit(1023));
        x.sure(0, 1, -50, -50);
        Due.is("fit of none without a WAY", false, () -> x.fit(0));
        CrashDesk all = Scene.meeting(10, 0);
        for (int n = 0; n < 10; n++) {
            all.tale(n % 2, n % 3, -50, 50);
        }
        Due.is("all of ten", true, () -> all.fit(1023));
        CrashDesk one = Scene.meeting(10, 0);
        one.tale(0, 2, 0, 0);
        one.tale(1, 2, 9, 9);
        Due.is("each is so by some WAY", true, () -> one.fit(1) && one.fit(2));
        Due.is("but not both by one", false, () -> one.fit(3));
    }

    /** "FALSE: the least number of TALES that are not so, of all WAYS; none without a WAY" */
    private static void fewestFalse() {
        CrashDesk x = Scene.meeting(10, 0);
        Due.is("FALSE without a TALE", 0, x::wrong);
        for (int n = 0; n < 10; n++) {
            int told = n + 1;
            x.tale(0, 2, 6 + n, 20);
            Due.is("all false of " + told, told, x::wrong);
            Due.is("all false of " + told, (1 << told) - 1, x::which);
        }
        x.sure(0, 1, 50, 50);
        Due.is("AFTER is 15 at 50: all so", 0, () -> x.span(0, 2, true, true) >= 15 ? x.wrong() : -99);
        x.sure(0, 1, -50, -50);
        Due.is("ten TALES, no WAY", CrashDesk.NONE, x::wrong);
        x.hush();
        Due.is("no TALE, no WAY", CrashDesk.NONE, x::wrong);
        CrashDesk one = Scene.meeting(10, 0);
        for (int n = 0; n < 10; n++) {
            one.tale(0, 2, n == 9 ? 0 : 5, n == 9 ? 0 : 5);
        }
        Due.is("one of ten", 1, one::wrong);
        one.sure(0, 2, 0, 4);
        Due.is("nine of ten", 9, one::wrong);
    }

    /** "WHICH: of all sets of so many that are the TALES that are not so by some WAY, that of the least bits" */
    private static void whichOfLeastBits() {
        CrashDesk x = Scene.meeting(10, 0);
        Due.is("WHICH without a TALE", 0, x::which);
        for (int n = 0; n < 10; n++) {
            x.tale(0, 2, n == 9 ? 0 : 5, n == 9 ? 0 : 5);
        }
        Due.is("the last of ten alone, as they are fewer", 512, x::which);
        x.sure(0, 2, 0, 4);
        Due.is("all but the last", 511, x::which);
        x.sure(0, 2, 1, 4);
        Due.is("all of ten", 1023, x::which);
        x.sure(0, 2, 0, 5);
        x.hush();
        x.tale(0, 2, 5, 5);
        x.tale(0, 2, 0, 0);
        Due.is("1 or 2", 1, x::which);
        x.tale(0, 2, 1, 1);
        Due.is("3, 5 or 6", 3, x::which);
        x.sure(0, 2, 0, 0);
        Due.is("5 by this WAY", 5, x::which);
        x.sure(0, 2, 5, 5);
        Due.is("6 by that WAY", 6, x::which);
        x.sure(0, 2, 0, 5);
        // (0, 1, 2) or (3): fewer goes before less.
        CrashDesk y = Scene.meeting(10, 0);
        y.tale(0, 2, 0, 0);
        y.tale(1, 2, 10, 10);
        y.tale(0, 2, -9, 0);
        y.tale(0, 2, 4, 4);
        Due.is("8 before 7", 8, y::which);
        y.tale(1, 2, 6, 6);
        Due.is("24 before 7", 24, y::which);
        y.tale(0, 2, 4, 5);
        Due.is("7 before 56", 7, y::which);
        y.sure(0, 1, -50, -50);
        Due.is("no WAY", CrashDesk.NONE, y::which);
    }

    /** "LEAST and GREATEST of a SPEED: of all WAYS (or of those by which all TALES are so)" */
    private static void leastAndGreatest() {
        CrashDesk x = Scene.meeting(10, 0);
        for (boolean tales : new boolean[] {false, true}) {
            Due.is("least", 0, () -> x.span(0, 2, false, tales));
            Due.is("greatest", 5, () -> x.span(0, 2, true, tales));
            Due.is("the only one", 10, () -> x.span(0, 1, false, tales) + x.span(1, 1, true, tales));
        }
        x.tale(0, 2, 1, 50);
        x.tale(1, 2, 7, 50);
        Due.is("least with the TALES", 1, () -> x.span(0, 2, false, true));
        Due.is("greatest with the TALES", 3, () -> x.span(0, 2, true, true));
        Scene.spanIs("without the TALES", x, 0, 2, 0, 5);
        x.tale(0, 0, 10, 10);
        Due.is("a TALE that is so by all", 3, () -> x.span(0, 2, true, true));
        x.tale(0, 0, 11, 50);
        Due.throwing("least with a TALE that is so by none", NO_SUCH, () -> x.span(0, 2, false, true));
        Scene.spanIs("without the TALES", x, 0, 2, 0, 5);
    }

    /** "AT ODDS: 0 if there is one with all" */
    private static void oddsOfNone() {
        Due.is("nothing told", 0, () -> new CrashDesk().odds());
        Due.is("no SKID and no WAY", 0, () -> Scene.withoutWay().odds());
        CrashDesk x = Scene.meeting(10, 0);
        x.skid(0, true, 0, 2000, 0, 150);
        Due.is("a WAY with all", 0, x::odds);
        x.skid(0, true, 0, 0, 0, 0);
        Due.is("a WAY with both", 0, x::odds);
        CrashDesk none = Scene.withoutWay();
        none.skid(0, true, 0, 0, 0, 0);
        none.skid(1, false, 1, 1, 1, 1);
        Due.is("no WAY without one either", 0, none::odds);
    }

    /** "the SKIDS without each of which, alone, there would be a WAY, as bits" */
    private static void oddsOfFirstAndLast() {
        for (int at = 0; at < 12; at++) {
            CrashDesk x = Scene.meeting(10, 0);
            for (int i = 0; i < 12; i++) {
                x.skid(i % 2, false, i == at ? 1 : 0, i == at ? 1 : 0, 1, 1);
            }
            int bit = 1 << at;
            int skid = at;
            Due.is("SKID " + at + " alone", bit, x::odds);
            Due.is("it is left as it was", 12, () -> x.count(1));
            Due.is("dropped", true, () -> x.drop(skid, true));
            Due.is("a WAY with all that count", 0, x::odds);
        }
        // Twelve with 51 times 11 each: 51 times 132 is none, but eleven take 51 times 121.
        CrashDesk x = Scene.meeting(0, -1);
        for (int i = 0; i < 12; i++) {
            Scene.skid51(x, 0, false, 11);
        }
        Due.is("each of twelve", 4095, x::odds);
        x.drop(5, true);
        Due.is("eleven are at odds with nothing", 0, x::odds);
        Scene.canBe("eleven", x, 0, 0, 11);
        x.drop(6, true);
        Due.is("ten: no WAY, nor with nine", 0, x::odds);
        x.drop(5, false);
        x.sure(0, 0, 0, 10);
        Due.is("eleven, and none alone", 0, x::odds);
        // 4 and 7 are not 10 together: 4 and 6 without the one, 3 and 7 without the other.
        CrashDesk two = Scene.meeting(10, 0);
        Scene.skid51(two, 0, true, 16);
        Scene.skid51(two, 1, true, 49);
        Due.is("the one or the other", 3, two::odds);
        two.tale(0, 2, 0, 0);
        Due.is("TALES are not asked", 3, two::odds);
        two.drop(0, true);
        Due.is("a WAY with all that count", 0, two::odds);
    }

    /** "AVOIDED by a CAR, with so much room (0 to 2000) and GRIP (0 to 150)" */
    private static void roomBounds() {
        CrashDesk x = Scene.meeting(10, 0);
        int[][] some = {{0, 0, 0}, {0, 150, 0}, {2000, 0, 0}, {2000, 150, 2}, {1, 1, 0}, {1999, 149, 2}};
        for (int[] n : some) {
            Due.is("room " + n[0] + ", GRIP " + n[1], n[2], () -> x.avoided(0, n[0], n[1]));
        }
        for (int[] n : Scene.NO_ROOMS) {
            for (int car = 0; car < 2; car++) {
                int c = car;
                Due.throwing("room " + n[0] + ", GRIP " + n[1], ARGUMENT, () -> x.avoided(c, n[0], n[1]));
            }
        }
    }

    /** "51 times FIRST times FIRST is room times GRIP at most" */
    private static void roomIsJustEnough() {
        int[][] all = {{0, 0, 0, 2}, {0, 0, 150, 2}, {1, 51, 1, 2}, {1, 1, 51, 2}, {1, 50, 1, 0}, {1, 25, 2, 0},
            {1, 26, 2, 2}, {1, 0, 150, 0}, {1, 2000, 0, 0}, {10, 51, 100, 2}, {10, 49, 104, 0},
            {50, 850, 150, 2}, {50, 849, 150, 0}, {50, 2000, 64, 2}, {50, 2000, 63, 0}};
        for (int[] n : all) {
            CrashDesk up = Scene.meeting(n[0], -50);
            Due.is("FIRST " + n[0] + ", room " + n[1] + ", GRIP " + n[2], n[3], () -> up.avoided(0, n[1], n[2]));
            CrashDesk down = Scene.meeting(50, -n[0]);
            Due.is("FIRST - " + n[0] + ", room " + n[1] + ", GRIP " + n[2], n[3], () -> down.avoided(1, n[1], n[2]));
        }
    }

    /** "2 if so by all WAYS, 1 by some, 0 by none" */
    private static void byAllBySomeByNone() {
        CrashDesk x = Scene.meeting(0, -1);
        x.skid(0, false, 0, 2000, 0, 150);
        Due.is("FIRST 0 to 50: 0 alone", 1, () -> x.avoided(0, 0, 0));
        Due.is("FIRST 0 to 50: all but 50", 1, () -> x.avoided(0, 849, 150));
        Due.is("FIRST 0 to 50: all", 2, () -> x.avoided(0, 850, 150));
        x.sure(0, 0, 1, 50);
        Due.is("FIRST 1 to 50: none", 0, () -> x.avoided(0, 50, 1));
        Due.is("FIRST 1 to 50: 1 alone", 1, () -> x.avoided(0, 51, 1));
        Due.is("the other CAR: FIRST - 1", 2, () -> x.avoided(1, 51, 1));
        Due.is("the other CAR: FIRST - 1", 0, () -> x.avoided(1, 50, 1));
        CrashDesk y = new CrashDesk();
        y.sure(1, 1, -50, -49);
        y.sure(0, 1, -48, 50);
        Due.is("FIRST - 50 and - 49: none", 0, () -> y.avoided(1, 816, 150));
        Due.is("FIRST - 50 and - 49: - 49 alone", 1, () -> y.avoided(1, 817, 150));
        Due.is("FIRST - 50 and - 49: both", 2, () -> y.avoided(1, 850, 150));
        y.tale(1, 0, -49, -49);
        Due.is("TALES are not asked", 1, () -> y.avoided(1, 817, 150));
    }

    /** "WAYS: how many there are": none, one, those of a new desk, and the most that there can be */
    private static void waysFromNoneToAll() {
        Due.is("none", 0L, () -> Scene.withoutWay().ways());
        Due.is("one", 1L, () -> Scene.meeting(1, 0).ways());
        Due.is("new", evenWays(false), () -> new CrashDesk().ways());
        Due.is("all", evenWays(true), () -> wide().ways());
        CrashDesk x = wide();
        x.tale(0, 1, 0, 0);
        Due.is("TALES are not asked", evenWays(true), x::ways);
    }

    /** For even masses, without SKIDS behind: each FIRST of CAR 0 goes with each one of CAR 1. */
    private static long evenWays(boolean skidsAhead) {
        long ways = 0;
        for (int at0 = -50; at0 <= 50; at0++) {
            for (int at1 = -50; at1 < at0; at1++) {
                long firsts = skidsAhead ? (51L - Math.abs(at0)) * (51L - Math.abs(at1)) : 1;
                for (int after0 = -50; after0 <= 50; after0++) {
                    int after1 = at0 + at1 - after0;
                    boolean is = after1 >= after0 && after1 <= 50
                        && at0 * at0 + at1 * at1 >= after0 * after0 + after1 * after1;
                    ways += is ? firsts : 0;
                }
            }
        }
        return ways;
    }

    /** "NoSuchElementException: there is no WAY (of those that are asked)" */
    private static void noWayIsThrown() {
        CrashDesk x = Scene.withoutWay();
        for (int kind = 0; kind < 24; kind++) {
            int k = kind;
            Due.throwing("span without a WAY", NO_SUCH,
                () -> x.span(k / 12, k / 4 % 3, k % 2 == 1, k / 2 % 2 == 1));
        }
        Due.throwing("avoided without a WAY", NO_SUCH, () -> x.avoided(0, 0, 0));
        Due.throwing("avoided without a WAY", NO_SUCH, () -> x.avoided(1, 2000, 150));
        x.sure(1, 1, -1, -1);
        Due.is("with one WAY", 0, () -> x.span(0, 1, false, true));
        Due.is("with one WAY", 2, () -> x.avoided(0, 0, 0));
        x.tale(0, 1, 1, 1);
        Due.throwing("the TALE asks for another WAY", NO_SUCH, () -> x.span(0, 1, false, true));
        Due.is("without the TALE", 0, () -> x.span(0, 1, false, false));
        Due.is("avoided asks nothing of the TALE", 2, () -> x.avoided(0, 0, 0));
    }

    /** "An object is used for at most 512 calls after it has been made": the last of them counts. */
    private static void call512() {
        CrashDesk x = Scene.meeting(10, 0);
        for (int call = 3; call < 511; call++) {
            int n = call;
            switch (call % 4) {
                case 0:
                    Due.goes("call " + n, () -> x.sure(0, 2, n % 8 == 0 ? 2 : -50, 50));
                    break;
                case 1:
                    Due.is("call " + n, n % 8 == 5 ? 6L : 4L, x::ways);
                    break;
                case 2:
                    Due.throwing("call " + n, ARGUMENT, () -> x.sure(0, 2, 50, -50));
                    break;
                default:
                    Due.is("call " + n, n < 8 || n % 8 == 7 ? 0 : 2, () -> x.span(0, 2, false, false));
                    break;
            }
        }
        Due.goes("call 511", () -> x.mass(0, 30));
        Due.is("call 512", 3L, x::ways);
    }
}
