import java.util.NoSuchElementException;

/** What each call throws, which exception comes first, and that a call that throws changes nothing. */
final class ErrorsTest {
    private static final Class<IndexOutOfBoundsException> INDEX = IndexOutOfBoundsException.class;
    private static final Class<IllegalArgumentException> ARGUMENT = IllegalArgumentException.class;
    private static final Class<UnsupportedOperationException> FULL = UnsupportedOperationException.class;
    private static final Class<NoSuchElementException> NO_SUCH = NoSuchElementException.class;
    private static final int[] OUTSIDE_CARS = {-1, 2, Integer.MIN_VALUE, Integer.MAX_VALUE};
    private static final int[] OUTSIDE_SPEEDS = {-1, 3, Integer.MIN_VALUE, Integer.MAX_VALUE};
    private static final int[][] NO_SPANS = {{-51, 0}, {0, 51}, {1, 0}, {51, 51}, {-51, -51}, {50, -50},
        {Integer.MIN_VALUE, Integer.MAX_VALUE}, {Integer.MAX_VALUE, Integer.MIN_VALUE}};

    public static void main(String[] args) {
        masses();
        skids();
        drops();
        spansAndTales();
        questions();
        unchanged();
        Due.end("ErrorsTest");
    }

    private static void masses() {
        CrashDesk x = new CrashDesk();
        for (int car : OUTSIDE_CARS) {
            Due.throwing("mass of car " + car, INDEX, () -> x.mass(car, 1));
            Due.throwing("no mass of car " + car, INDEX, () -> x.mass(car, 0));
        }
        for (int n : new int[] {0, -1, 101, Integer.MIN_VALUE, Integer.MAX_VALUE}) {
            Due.throwing("mass " + n, ARGUMENT, () -> x.mass(0, n));
            Due.throwing("mass " + n, ARGUMENT, () -> x.mass(1, n));
        }
        Due.goes("mass 1", () -> x.mass(0, 1));
        Due.goes("mass 100", () -> x.mass(1, 100));
        Due.is("count(3)", 1, () -> x.count(3));
        Due.is("count(4)", 100, () -> x.count(4));
    }

    private static void skids() {
        CrashDesk x = new CrashDesk();
        int[][] none = {{-1, 0, 0, 0}, {0, 2001, 0, 0}, {2001, 2001, 0, 0}, {1, 0, 0, 0}, {0, 0, -1, 0},
            {0, 0, 0, 151}, {0, 0, 151, 151}, {0, 0, 1, 0}, {-1, -1, 0, 0}, {0, 0, -1, -1},
            {Integer.MIN_VALUE, 0, 0, 0}, {0, Integer.MAX_VALUE, 0, 0}, {0, 0, 0, Integer.MAX_VALUE}};
        for (int told = 0; told <= 12; told++) {
            for (int[] n : none) {
                Due.throwing("skid of no numbers", ARGUMENT, () -> x.skid(1, true, n[0], n[1], n[2], n[3]));
                Due.throwing("skid of no numbers and no car", INDEX, () -> x.skid(2, true, n[0], n[1], n[2], n[3]));
            }
            for (int car : OUTSIDE_CARS) {
                Due.throwing("skid of no car", INDEX, () -> x.skid(car, false, 0, 0, 0, 0));
            }
            Due.is("skids told", told, () -> x.count(0));
            int next = told;
            if (told < 12) {
                Due.is("skid " + told, next, () -> x.skid(1, false, 0, 2000, 0, 150));
            }
        }
        Due.throwing("skid 12", FULL, () -> x.skid(0, true, 1, 2, 3, 4));
        Due.is("drop(3)", true, () -> x.drop(3, true));
        Due.throwing("skid 12 with one dropped", FULL, () -> x.skid(0, true, 1, 2, 3, 4));
        Due.is("count(0)", 12, () -> x.count(0));
        Due.is("count(1)", 11, () -> x.count(1));
    }

    private static void drops() {
        CrashDesk x = new CrashDesk();
        x.skid(0, true, 1, 1, 1, 1);
        for (int skid : new int[] {-1, 1, 12, Integer.MIN_VALUE, Integer.MAX_VALUE}) {
            Due.throwing("drop(" + skid + ")", INDEX, () -> x.drop(skid, true));
            Due.throwing("drop(" + skid + ") again", INDEX, () -> x.drop(skid, false));
            for (int what : new int[] {-1, 0, 4, 5}) {
                Due.throwing("look(" + skid + ", " + what + ")", INDEX, () -> x.look(skid, what));
            }
        }
        for (int what : new int[] {-1, 5, Integer.MIN_VALUE, Integer.MAX_VALUE}) {
            Due.throwing("look(0, " + what + ")", NO_SUCH, () -> x.look(0, what));
        }
    }

    private static void spansAndTales() {
        CrashDesk y = new CrashDesk();
        for (int[] n : NO_SPANS) {
            Due.throwing("sure of no span", ARGUMENT, () -> y.sure(0, 0, n[0], n[1]));
            Due.throwing("sure of no span and no car", INDEX, () -> y.sure(2, 0, n[0], n[1]));
        }
        CrashDesk x = new CrashDesk();
        for (int told = 0; told <= 10; told++) {
            for (int[] n : NO_SPANS) {
                Due.throwing("tale of no span", ARGUMENT, () -> x.tale(1, 2, n[0], n[1]));
                Due.throwing("tale of no span and no speed", INDEX, () -> x.tale(1, 3, n[0], n[1]));
            }
            for (int speed : OUTSIDE_SPEEDS) {
                Due.throwing("sure of no speed", INDEX, () -> x.sure(1, speed, 0, 0));
                Due.throwing("tale of no speed", INDEX, () -> x.tale(0, speed, 0, 0));
            }
            for (int car : OUTSIDE_CARS) {
                Due.throwing("sure of no car", INDEX, () -> x.sure(car, 0, 0, 0));
                Due.throwing("tale of no car", INDEX, () -> x.tale(car, 0, 0, 0));
            }
            Due.is("tales told", told, () -> x.count(2));
            int next = told;
            if (told < 10) {
                Due.is("tale " + told, next, () -> x.tale(0, next % 3, -50, 50));
            }
        }
        Due.throwing("tale 10", FULL, () -> x.tale(0, 0, 0, 0));
        Due.is("hush", 10, x::hush);
        Due.is("tale after hush", 0, () -> x.tale(0, 0, 0, 0));
    }

    private static void questions() {
        for (boolean none : new boolean[] {false, true}) {
            CrashDesk x = new CrashDesk();
            if (none) {
                x.sure(0, 1, -50, -50);
            }
            for (int car : OUTSIDE_CARS) {
                Due.throwing("span of no car", INDEX, () -> x.span(car, 0, none, true));
                Due.throwing("can of no car", INDEX, () -> x.can(car, 0, 0));
                Due.throwing("avoided of no car", INDEX, () -> x.avoided(car, 0, 0));
                Due.throwing("avoided of no car and no room", INDEX, () -> x.avoided(car, -1, 0));
            }
            for (int speed : OUTSIDE_SPEEDS) {
                Due.throwing("span of no speed", INDEX, () -> x.span(0, speed, none, false));
                Due.throwing("can of no speed", INDEX, () -> x.can(1, speed, 0));
            }
            int[][] noRoom = {{-1, 0}, {2001, 0}, {0, -1}, {0, 151}, {Integer.MAX_VALUE, Integer.MAX_VALUE},
                {Integer.MIN_VALUE, 150}, {2000, Integer.MIN_VALUE}};
            for (int[] n : noRoom) {
                Due.throwing("avoided with no room or grip", ARGUMENT, () -> x.avoided(1, n[0], n[1]));
            }
            if (none) {
                Due.throwing("span without a way", NO_SUCH, () -> x.span(0, 0, true, false));
                Due.throwing("avoided without a way", NO_SUCH, () -> x.avoided(0, 2000, 150));
                Due.is("can without a way", false, () -> x.can(0, 1, -50));
            }
        }
    }

    /** Each wrong call on a full scene, and then every answer again. */
    private static void unchanged() {
        CrashDesk x = new CrashDesk();
        x.skid(1, true, 20, 25, 90, 100);
        x.sure(0, 1, 8, 12);
        x.sure(1, 1, -3, 3);
        x.tale(0, 2, 0, 3);
        String before = scene(x);
        Due.throwing("mass", ARGUMENT, () -> x.mass(0, 0));
        Due.throwing("mass", ARGUMENT, () -> x.mass(1, 101));
        Due.throwing("skid", ARGUMENT, () -> x.skid(1, true, 3, 2, 0, 0));
        Due.throwing("skid", ARGUMENT, () -> x.skid(1, true, 0, 0, 0, 151));
        Due.throwing("drop", INDEX, () -> x.drop(1, true));
        Due.throwing("sure", ARGUMENT, () -> x.sure(0, 1, 9, 8));
        Due.throwing("sure", ARGUMENT, () -> x.sure(0, 1, -50, 51));
        Due.throwing("tale", ARGUMENT, () -> x.tale(0, 2, 9, 8));
        Due.throwing("look", NO_SUCH, () -> x.look(0, 5));
        Due.same("the scene after the wrong calls", before, scene(x));
    }

    private static String scene(CrashDesk x) {
        StringBuilder all = new StringBuilder();
        for (int what = 0; what < 5; what++) {
            all.append(x.count(what)).append(' ').append(x.look(0, what)).append(' ');
        }
        for (int car = 0; car < 2; car++) {
            for (int speed = 0; speed < 3; speed++) {
                all.append(x.span(car, speed, false, false)).append("..");
                all.append(x.span(car, speed, true, true)).append(' ');
            }
        }
        all.append(x.ways()).append(' ').append(x.wrong()).append(' ').append(x.which());
        return all.toString();
    }
}
