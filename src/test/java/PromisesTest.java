import java.util.NoSuchElementException;

/** Each promise by small scenes that can be reckoned by hand. */
final class PromisesTest {
    private static final Class<NoSuchElementException> NO_SUCH = NoSuchElementException.class;

    public static void main(String[] args) {
        newDesk();
        masses();
        skids();
        drops();
        sureSpans();
        tales();
        hushes();
        waysByEachLaw();
        spans();
        fits();
        falseTales();
        whichTales();
        skidsAtOdds();
        avoidedOrNot();
        looks();
        canOrNot();
        counts();
        Due.end("PromisesTest");
    }

    /** CAR 0 meets CAR 1 with just these AT; nothing else is told. */
    private static CrashDesk meeting(int fast, int slow) {
        CrashDesk x = new CrashDesk();
        x.sure(0, 1, fast, fast);
        x.sure(1, 1, slow, slow);
        return x;
    }

    private static void span(CrashDesk x, int car, int speed, int least, int greatest) {
        Due.is("least of " + car + ", " + speed, least, () -> x.span(car, speed, false, false));
        Due.is("greatest of " + car + ", " + speed, greatest, () -> x.span(car, speed, true, false));
    }

    // promise 1
    private static void newDesk() {
        CrashDesk x = new CrashDesk();
        int[] counts = {0, 0, 0, 10, 10, -1};
        for (int what = 0; what < counts.length; what++) {
            int w = what;
            Due.is("count(" + what + ") of a new desk", counts[what], () -> x.count(w));
        }
        span(x, 0, 1, -49, 50);
        span(x, 1, 1, -50, 49);
        span(x, 0, 0, -49, 50);
        span(x, 1, 0, -50, 49);
        span(x, 0, 2, -50, 49);
        span(x, 1, 2, -49, 50);
        Due.is("wrong of a new desk", 0, x::wrong);
        Due.is("which of a new desk", 0, x::which);
        Due.is("odds of a new desk", 0, x::odds);
        Due.is("fit of a new desk", true, () -> x.fit(0));
        CrashDesk other = new CrashDesk();
        other.mass(0, 3);
        other.sure(0, 0, 1, 2);
        Due.is("a desk is its own", 10, () -> x.count(3));
    }

    // promise 2: 1 and 3, at 8 and 0: parted at (2, 2), (-1, 3), (-4, 4), the last without a loss
    private static void masses() {
        CrashDesk x = meeting(8, 0);
        x.mass(0, 1);
        x.mass(1, 3);
        Due.is("ways of 1 and 3", 3L, x::ways);
        span(x, 0, 2, -4, 2);
        span(x, 1, 2, 2, 4);
        Due.is("(-1, 3)", true, () -> x.can(0, 2, -1) && x.can(1, 2, 3));
        Due.is("no whole push", false, () -> x.can(0, 2, 0) || x.can(0, 2, 1));
        x.mass(0, 3);
        x.mass(1, 1);
        Due.is("ways of 3 and 1", 3L, x::ways);
        span(x, 0, 2, 4, 6);
        span(x, 1, 2, 6, 12);
        x.mass(0, 100);
        x.mass(1, 100);
        Due.is("ways of even masses", 5L, x::ways);
        x.mass(0, 75);
        x.mass(1, 25);
        span(x, 0, 2, 4, 6);
        x.mass(0, 100);
        x.mass(1, 1);
        Due.is("ways of 100 and 1, at a gap of 8", 0L, x::ways);
        x.sure(0, 1, 50, 50);
        x.sure(1, 1, -50, -50);
        Due.is("ways of 100 and 1, at a gap of 100: (49, 50)", 1L, x::ways);
        span(x, 0, 2, 49, 49);
        span(x, 1, 2, 50, 50);
        x.mass(0, 99);
        Due.is("ways of 99 and 1", 1L, x::ways);
        span(x, 0, 2, 49, 49);
        span(x, 1, 2, 49, 49);
    }

    // promise 3: 51 times (12 times 12 less 10 times 10) is 2244, 51 times (13..) 3519
    private static void skids() {
        CrashDesk x = meeting(10, 0);
        Due.is("skid 0", 0, () -> x.skid(0, false, 22, 22, 102, 102));
        span(x, 0, 0, 12, 12);
        Due.is("skid 1", 1, () -> x.skid(0, false, 1, 1, 0, 1));
        span(x, 0, 0, 12, 12);
        Due.is("skid 2 takes 1 too much", 2, () -> x.skid(0, false, 1, 1, 2, 2));
        Due.is("a skid that is too long", 0L, x::ways);
        CrashDesk y = meeting(10, 0);
        y.skid(0, false, 0, 23, 0, 153 - 3);
        span(y, 0, 0, 10, 12);
        y.skid(0, false, 0, 69, 0, 1);
        span(y, 0, 0, 10, 13);
        CrashDesk z = meeting(10, 0);
        z.skid(0, false, 0, 22, 0, 150);
        z.skid(0, false, 0, 218, 0, 1);
        Due.is("3518 is not enough for 13", false, () -> z.can(0, 0, 13));
        z.skid(1, false, 0, 2000, 0, 150);
        Due.is("another car's skid gives nothing", false, () -> z.can(0, 0, 13));
        span(z, 1, 0, 0, 50);
        z.skid(0, true, 51, 51, 16, 16);
        Due.is("a skid behind", false, () -> z.can(0, 2, 5));
        span(z, 0, 2, 4, 4);
    }

    // promise 4
    private static void drops() {
        CrashDesk x = meeting(10, 0);
        Due.is("ways of 10 and 0", 6L, x::ways);
        x.skid(0, true, 51, 51, 9, 9);
        Due.is("ways with a skid behind", 1L, x::ways);
        Due.is("again, when it counts", false, () -> x.drop(0, false));
        Due.is("ways", 1L, x::ways);
        Due.is("drop", true, () -> x.drop(0, true));
        Due.is("ways without it", 6L, x::ways);
        Due.is("drop twice", false, () -> x.drop(0, true));
        Due.is("ways without it", 6L, x::ways);
        Due.is("again", true, () -> x.drop(0, false));
        Due.is("ways with it again", 1L, x::ways);
        x.skid(0, true, 0, 0, 0, 0);
        x.drop(0, true);
        Due.is("a skid behind that takes nothing stops at once", 1L, x::ways);
        span(x, 0, 2, 0, 0);
        x.drop(1, true);
        Due.is("nothing is asked of AFTER without a skid", 6L, x::ways);
    }

    // promise 5
    private static void sureSpans() {
        CrashDesk x = meeting(10, 0);
        x.sure(0, 2, 2, 4);
        Due.is("ways", 3L, x::ways);
        x.sure(0, 2, 4, 9);
        Due.is("the latest telling counts", 2L, x::ways);
        span(x, 0, 2, 4, 5);
        x.sure(0, 2, -50, 50);
        Due.is("a wider telling too", 6L, x::ways);
        x.sure(1, 0, 1, 50);
        Due.is("FIRST is told otherwise", 0L, x::ways);
        x.sure(1, 0, 0, 0);
        x.sure(1, 2, 10, 10);
        Due.is("ways", 1L, x::ways);
        span(x, 0, 2, 0, 0);
    }

    // promise 6
    private static void tales() {
        CrashDesk x = meeting(10, 0);
        for (int n = 0; n < 10; n++) {
            int number = n;
            Due.is("tale " + n, number, () -> x.tale(number % 2, 2, number, number + 1));
        }
        Due.is("count(2)", 10, () -> x.count(2));
        Due.is("tales change no way", 6L, x::ways);
        CrashDesk y = meeting(10, 0);
        y.tale(0, 2, 3, 4);
        span(y, 0, 2, 0, 5);
        Due.is("least with the tale", 3, () -> y.span(0, 2, false, true));
        Due.is("greatest with the tale", 4, () -> y.span(0, 2, true, true));
    }

    // promise 7
    private static void hushes() {
        CrashDesk x = meeting(10, 0);
        Due.is("hush of nothing", 0, x::hush);
        x.tale(0, 0, 0, 1);
        x.tale(0, 0, 2, 3);
        Due.is("wrong", 2, x::wrong);
        Due.is("hush", 2, x::hush);
        Due.is("hush again", 0, x::hush);
        Due.is("count(2)", 0, () -> x.count(2));
        Due.is("wrong", 0, x::wrong);
        Due.is("fit", true, () -> x.fit(3));
        Due.is("span with no tales", 10, () -> x.span(0, 0, false, true));
        Due.is("the next tale", 0, () -> x.tale(0, 0, 10, 10));
        Due.is("only what is told anew counts", 0, x::wrong);
    }

    // promise 8: each part of what a WAY is
    private static void waysByEachLaw() {
        Due.is("(e) they must close in", 0L, meeting(0, 0)::ways);
        Due.is("(e) they must close in", 0L, meeting(0, 1)::ways);
        Due.is("(e) by 1 is enough", 1L, meeting(1, 0)::ways);
        Due.is("(e, d) by 2: (1, 1) and (0, 2)", 2L, meeting(2, 0)::ways);
        CrashDesk back = meeting(-1, -3);
        Due.is("the line below 0", 2L, back::ways);
        span(back, 0, 0, -1, -1);
        span(back, 0, 2, -3, -2);
        CrashDesk still = meeting(0, -1);
        still.skid(0, false, 0, 2000, 0, 150);
        Due.is("(a) FIRST is 0 or above if AT is 0", 51L, still::ways);
        span(still, 0, 0, 0, 50);
        still.skid(1, false, 0, 2000, 0, 150);
        Due.is("(a) each FIRST with each other one", 51L * 50, still::ways);
        span(still, 1, 0, -50, -1);
        CrashDesk up = meeting(7, 6);
        up.skid(0, false, 0, 2000, 0, 150);
        span(up, 0, 0, 7, 50);
        up.skid(0, false, 1, 1, 1, 1);
        span(up, 0, 0, 8, 50);
        CrashDesk behind = meeting(10, 0);
        behind.skid(0, true, 51, 51, 9, 9);
        span(behind, 0, 2, 3, 3);
        behind.skid(0, true, 51, 51, 16, 16);
        span(behind, 0, 2, 5, 5);
        CrashDesk few = meeting(10, 0);
        few.skid(0, true, 0, 458, 0, 1);
        span(few, 0, 2, 0, 2);
        few.skid(0, true, 0, 1, 0, 1);
        span(few, 0, 2, 0, 3);
        few.skid(0, true, 51, 51, 1, 1);
        span(few, 0, 2, 1, 3);
        few.skid(0, true, 1, 1, 1, 1);
        span(few, 0, 2, 2, 3);
        CrashDesk slows = meeting(10, 0);
        slows.sure(1, 1, -1, 0);
        Due.is("6 with a gap of 10, 6 with one of 11", 12L, slows::ways);
        slows.sure(1, 1, -1, 1);
        slows.skid(1, false, 51, 51, 3, 3);
        Due.is("FIRST 2 and AT 1 either way, but not AT 0", 11L, slows::ways);
        span(slows, 1, 0, -2, 2);
        Due.is("not AT 0", false, () -> slows.can(1, 1, 0) || slows.can(1, 0, 0));
        slows.skid(1, true, 51, 51, 49, 49);
        Due.is("one each", 2L, slows::ways);
        span(slows, 0, 2, 2, 4);
        CrashDesk below = meeting(3, -10);
        below.skid(0, true, 51, 51, 49, 49);
        span(below, 0, 2, -7, -7);
        below.skid(1, true, 0, 0, 0, 0);
        span(below, 1, 2, 0, 0);
        CrashDesk all = meeting(50, -50);
        Due.is("the widest gap", 51L, all::ways);
        span(all, 0, 2, -50, 0);
        span(all, 1, 2, 0, 50);
        CrashDesk edge = meeting(50, 40);
        Due.is("nothing above 50", 6L, edge::ways);
        edge.mass(0, 100);
        edge.mass(1, 50);
        Due.is("nothing above 50, (46, 48) and (45, 50)", 2L, edge::ways);
        edge.sure(0, 2, 46, 50);
        Due.is("(46, 48)", 1L, edge::ways);
    }

    // promise 9
    private static void spans() {
        CrashDesk x = meeting(10, 0);
        x.sure(0, 1, 9, 10);
        span(x, 0, 1, 9, 10);
        span(x, 0, 0, 9, 10);
        span(x, 0, 2, 0, 5);
        span(x, 1, 2, 5, 10);
        x.tale(1, 2, 10, 20);
        Due.is("AT with the tale", 10, () -> x.span(0, 1, false, true));
        Due.is("AT without the tale", 9, () -> x.span(0, 1, false, false));
        Due.is("AFTER with the tale", 0, () -> x.span(0, 2, true, true));
        x.tale(0, 0, 9, 9);
        Due.throwing("no way by which both are so", NO_SUCH, () -> x.span(0, 2, true, true));
        Due.is("without the tales", 5, () -> x.span(0, 2, true, false));
        x.sure(0, 1, -50, -50);
        Due.throwing("no way", NO_SUCH, () -> x.span(0, 2, true, false));
    }

    // promise 10
    private static void fits() {
        CrashDesk x = meeting(10, 0);
        x.tale(0, 2, 0, 2);
        x.tale(1, 2, 5, 8);
        x.tale(0, 0, 11, 50);
        boolean[] due = {true, true, true, true, false, false, false, false};
        for (int set = 0; set < 8; set++) {
            int s = set;
            Due.is("fit(" + set + ")", due[set], () -> x.fit(s));
            Due.is("fit(" + set + " and 8)", due[set], () -> x.fit(s | 8));
            Due.is("fit(" + set + " and others)", due[set], () -> x.fit(s | Integer.MIN_VALUE | 1 << 10));
        }
        Due.is("fit of all bits", false, () -> x.fit(-1));
        x.tale(1, 2, 5, 7);
        Due.is("tales 0 and 3", false, () -> x.fit(9));
        x.sure(0, 1, -50, -50);
        Due.is("fit of nothing without a way", false, () -> x.fit(0));
    }

    // promise 11
    private static void falseTales() {
        CrashDesk x = meeting(10, 0);
        x.tale(0, 2, 0, 0);
        Due.is("wrong of 1", 0, x::wrong);
        x.tale(0, 2, 1, 1);
        Due.is("wrong of 2", 1, x::wrong);
        x.tale(1, 2, 9, 9);
        Due.is("wrong of 3", 1, x::wrong);
        x.tale(1, 2, 11, 50);
        Due.is("wrong of 4", 2, x::wrong);
        x.sure(0, 1, -50, -50);
        Due.is("wrong without a way", CrashDesk.NONE, x::wrong);
        x.hush();
        Due.is("wrong without a way or a tale", CrashDesk.NONE, x::wrong);
    }

    // promise 12
    private static void whichTales() {
        CrashDesk x = meeting(10, 0);
        x.tale(0, 2, 1, 1);
        x.tale(0, 2, 0, 0);
        Due.is("1 or 2: the least bits", 1, x::which);
        x.tale(1, 2, 9, 9);
        Due.is("two against one", 2, x::which);
        CrashDesk y = meeting(10, 0);
        y.tale(0, 2, 0, 0);
        y.tale(0, 2, 0, 1);
        y.tale(0, 2, 5, 5);
        Due.is("fewer go before less", 4, y::which);
        y.tale(0, 2, 5, 5);
        Due.is("(0, 1) before (2, 3)", 3, y::which);
        y.tale(0, 2, 4, 5);
        Due.is("(0, 1) for being fewer", 3, y::which);
        y.sure(0, 2, 1, 4);
        Due.is("only by some way: 1 would be 29, 4 is 15", 15, y::which);
        y.sure(0, 2, 1, 3);
        Due.is("only by some way: 1", 29, y::which);
        y.sure(0, 1, -50, -50);
        Due.is("which without a way", CrashDesk.NONE, y::which);
        CrashDesk v = meeting(10, 0);
        v.skid(0, false, 0, 2000, 0, 150);
        v.tale(0, 0, 20, 30);
        v.tale(0, 0, 30, 50);
        v.tale(0, 0, 50, 50);
        Due.is("FIRST is 50, or 30", 1, v::which);
        v.tale(0, 0, 10, 30);
        Due.is("FIRST is 30", 4, v::which);
        v.sure(0, 0, 10, 29);
        Due.is("FIRST is 20", 6, v::which);
        CrashDesk z = meeting(10, 0);
        Due.is("which without a tale", 0, z::which);
        for (int n = 0; n < 10; n++) {
            z.tale(n % 2, n % 3, 40, 50);
        }
        Due.is("all of ten", 1023, z::which);
        Due.is("all of ten", 10, z::wrong);
    }

    // promise 13
    private static void skidsAtOdds() {
        CrashDesk x = meeting(10, 0);
        x.skid(0, false, 0, 50, 0, 100);
        x.skid(0, true, 51, 51, 9, 9);
        Due.is("none at odds", 0, x::odds);
        x.skid(1, true, 51, 51, 25, 25);
        Due.is("3 and 5 do not add up to 10", 6, x::odds);
        x.drop(0, true);
        Due.is("nor without what counts no more", 6, x::odds);
        x.drop(0, false);
        x.skid(1, false, 1, 1, 1, 1);
        Due.is("two things wrong: none alone", 0, x::odds);
        x.drop(2, true);
        Due.is("the skid ahead of CAR 1 alone", 8, x::odds);
        x.drop(1, true);
        Due.is("a skid that is dropped is not asked", 8, x::odds);
        x.sure(1, 0, 1, 50);
        Due.is("no skid is to blame", 0, x::odds);
        CrashDesk z = meeting(10, 0);
        z.skid(0, true, 1, 1, 1, 1);
        Due.is("skid 0 alone", 1, z::odds);
        z.skid(0, true, 50, 50, 1, 1);
        Due.is("now that two take 51", 0, z::odds);
        z.skid(1, false, 1, 1, 1, 1);
        Due.is("skid 2 alone", 4, z::odds);
        CrashDesk y = meeting(10, 0);
        for (int i = 0; i < 11; i++) {
            y.skid(0, i % 2 == 0, 0, 2000, 0, 150);
        }
        y.skid(1, true, 2000, 2000, 150, 150);
        Due.is("the last of twelve", 1 << 11, y::odds);
        Due.is("odds changes nothing", 12, () -> y.count(1));
    }

    // promise 14: 51 times 10 times 10 is 5100
    private static void avoidedOrNot() {
        CrashDesk x = meeting(10, 0);
        Due.is("5100", 2, () -> x.avoided(0, 51, 100));
        Due.is("5100 the other way", 2, () -> x.avoided(0, 100, 51));
        Due.is("5000", 0, () -> x.avoided(0, 50, 100));
        Due.is("a car that stands", 2, () -> x.avoided(1, 0, 0));
        x.sure(0, 1, 9, 10);
        Due.is("by some", 1, () -> x.avoided(0, 50, 100));
        Due.is("by some: 9 at just 4131", 1, () -> x.avoided(0, 81, 51));
        Due.is("by none", 0, () -> x.avoided(0, 41, 100));
        Due.is("by all", 2, () -> x.avoided(0, 2000, 150));
        x.tale(0, 1, 9, 9);
        Due.is("tales count for nothing", 1, () -> x.avoided(0, 50, 100));
        x.skid(0, false, 2000, 2000, 0, 150);
        Due.is("9 to 50: the slowest alone", 1, () -> x.avoided(0, 81, 51));
        Due.is("127500 is just room enough", 2, () -> x.avoided(0, 850, 150));
        Due.is("126000 is not", 1, () -> x.avoided(0, 2000, 63));
        x.sure(0, 0, 50, 50);
        Due.is("50", 2, () -> x.avoided(0, 850, 150));
        Due.is("50", 0, () -> x.avoided(0, 849, 150));
        CrashDesk y = meeting(-3, -10);
        Due.is("below 0", 2, () -> y.avoided(1, 51, 100));
        Due.is("below 0", 0, () -> y.avoided(1, 50, 100));
        y.skid(1, false, 1, 1, 1, 1);
        Due.throwing("no way", NO_SUCH, () -> y.avoided(0, 2000, 150));
    }

    // promise 15
    private static void looks() {
        CrashDesk x = new CrashDesk();
        x.skid(1, true, 2, 3, 5, 7);
        x.skid(0, false, 0, 2000, 0, 150);
        int[][] due = {{1, 1, 10, 21, 1}, {0, 0, 0, 300000, 1}};
        for (int skid = 0; skid < 2; skid++) {
            for (int what = 0; what < 5; what++) {
                int s = skid;
                int w = what;
                Due.is("look(" + s + ", " + w + ")", due[s][w], () -> x.look(s, w));
            }
        }
        x.drop(0, true);
        Due.is("dropped", 0, () -> x.look(0, 4));
        Due.is("not dropped", 1, () -> x.look(1, 4));
        Due.is("dropped, but told", 21, () -> x.look(0, 3));
        x.drop(0, false);
        Due.is("counts again", 1, () -> x.look(0, 4));
    }

    // promise 16
    private static void canOrNot() {
        CrashDesk x = meeting(10, 0);
        for (int n = -60; n <= 60; n++) {
            int number = n;
            Due.is("can AFTER 0 be " + n, n >= 0 && n <= 5, () -> x.can(0, 2, number));
            Due.is("can AFTER 1 be " + n, n >= 5 && n <= 10, () -> x.can(1, 2, number));
            Due.is("can FIRST 0 be " + n, n == 10, () -> x.can(0, 0, number));
            Due.is("can AT 1 be " + n, n == 0, () -> x.can(1, 1, number));
        }
        Due.is("far below", false, () -> x.can(0, 0, Integer.MIN_VALUE));
        Due.is("far above", false, () -> x.can(0, 0, Integer.MAX_VALUE));
        x.tale(0, 2, 0, 0);
        Due.is("tales count for nothing", true, () -> x.can(0, 2, 5));
    }

    // promise 17
    private static void counts() {
        CrashDesk x = new CrashDesk();
        x.mass(0, 7);
        x.mass(1, 9);
        x.skid(0, true, 0, 0, 0, 0);
        x.skid(1, true, 0, 0, 0, 0);
        x.skid(1, false, 0, 0, 0, 0);
        x.drop(1, true);
        x.tale(0, 0, 0, 0);
        int[] due = {3, 2, 1, 7, 9};
        for (int what = 0; what < 5; what++) {
            int w = what;
            Due.is("count(" + what + ")", due[what], () -> x.count(w));
        }
        for (int what : new int[] {-1, 5, Integer.MIN_VALUE, Integer.MAX_VALUE}) {
            Due.is("count(" + what + ")", CrashDesk.NONE, () -> x.count(what));
        }
    }
}
