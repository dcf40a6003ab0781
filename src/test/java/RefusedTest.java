import java.util.ArrayList;
import java.util.List;
import java.util.NoSuchElementException;

/**
 * "Of several exceptions the one told first is thrown; a call that throws changes nothing": each
 * call that is refused, on desks from new to full, and then everything that can be asked of them.
 */
final class RefusedTest {
    private static final Class<IndexOutOfBoundsException> INDEX = IndexOutOfBoundsException.class;
    private static final Class<IllegalArgumentException> ARGUMENT = IllegalArgumentException.class;
    private static final Class<UnsupportedOperationException> FULL = UnsupportedOperationException.class;
    private static final Class<NoSuchElementException> NO_SUCH = NoSuchElementException.class;
    private static final String[] DESKS = {"a new desk", "a desk in use", "a full desk", "a full desk without a WAY"};

    interface Call {
        void on(CrashDesk x);
    }

    private record Refused(String what, Class<? extends RuntimeException> due, Call call) {
    }

    public static void main(String[] args) {
        for (int kind = 0; kind < DESKS.length; kind++) {
            Due.same(DESKS[kind] + " has a WAY", kind < 3, desk(kind).ways() > 0);
            String due = Scene.all(desk(kind));
            String next = next(desk(kind));
            for (Refused refused : refusedBy(kind)) {
                oneCall(kind, refused, due, next);
            }
        }
        manyCalls();
        Due.end("RefusedTest");
    }

    private static CrashDesk desk(int kind) {
        CrashDesk x = new CrashDesk();
        if (kind == 0) {
            return x;
        }
        x.mass(0, 20);
        x.sure(0, 1, 7, 12);
        x.sure(1, 1, -4, 0);
        x.skid(0, false, 0, 60, 0, 90);
        x.skid(1, true, 51, 51, 9, 100);
        x.skid(1, false, 1, 1, 1, 1);
        x.drop(2, true);
        x.tale(0, 2, 3, 4);
        x.tale(1, 2, 9, 10);
        for (int i = 3; kind > 1 && i < 12; i++) {
            x.skid(i % 2, false, 0, i, 0, 10 * i);
        }
        for (int i = 2; kind > 1 && i < 10; i++) {
            x.tale(i % 2, i % 3, i - 5, i + 5);
        }
        if (kind == 3) {
            x.drop(2, false);
            x.sure(1, 0, 0, 0);
        }
        return x;
    }

    /** What the next telling is answered, as far as there is room. */
    private static String next(CrashDesk x) {
        StringBuilder all = new StringBuilder();
        if (x.count(0) < 12) {
            all.append("skid ").append(x.skid(0, false, 0, 1, 0, 1));
            all.append(" drop ").append(x.drop(x.count(0) - 1, true));
        }
        if (x.count(2) < 10) {
            all.append(" tale ").append(x.tale(0, 0, 0, 50));
        }
        all.append(" wrong ").append(x.wrong()).append(" hush ").append(x.hush());
        all.append(" ways ").append(x.ways()).append(" odds ").append(x.odds());
        return all.toString();
    }

    private static void oneCall(int kind, Refused refused, String due, String next) {
        String what = refused.what + " on " + DESKS[kind];
        CrashDesk x = desk(kind);
        Due.throwing(what, refused.due, () -> refused.call.on(x));
        Due.same("all after " + what, due, Scene.all(x));
        Due.throwing(what + ", once more", refused.due, () -> refused.call.on(x));
        Due.same("the next telling after " + what, next, next(x));
    }

    /** All refused calls, one behind another, as far as 512 calls of one desk go. */
    private static void manyCalls() {
        for (int kind = 0; kind < DESKS.length; kind++) {
            String due = Scene.all(desk(kind));
            List<Refused> all = refusedBy(kind);
            for (int from = 0; from < all.size(); from += 180) {
                CrashDesk x = desk(kind);
                for (Refused refused : all.subList(from, Math.min(from + 180, all.size()))) {
                    Due.throwing(refused.what + " on " + DESKS[kind], refused.due, () -> refused.call.on(x));
                }
                Due.same("all after many calls on " + DESKS[kind], due, Scene.all(x));
            }
        }
    }

    private static List<Refused> refusedBy(int kind) {
        List<Refused> all = new ArrayList<>();
        masses(all);
        skids(all, kind > 1);
        noSkids(all, kind == 0 ? 0 : kind == 1 ? 3 : 12);
        spans(all);
        tales(all, kind > 1);
        questions(all, kind == 3);
        return all;
    }

    private static void masses(List<Refused> all) {
        for (int car : Scene.NO_CARS) {
            all.add(new Refused("mass of no CAR", INDEX, x -> x.mass(car, 1)));
            for (int n : Scene.NO_MASSES) {
                all.add(new Refused("mass of no CAR and none", INDEX, x -> x.mass(car, n)));
            }
        }
        for (int n : Scene.NO_MASSES) {
            all.add(new Refused("mass " + n + " of CAR 0", ARGUMENT, x -> x.mass(0, n)));
            all.add(new Refused("mass " + n + " of CAR 1", ARGUMENT, x -> x.mass(1, n)));
        }
    }

    private static void skids(List<Refused> all, boolean full) {
        for (int[] n : Scene.NO_SKIDS) {
            String of = "skid of " + n[0] + " to " + n[1] + ", " + n[2] + " to " + n[3];
            all.add(new Refused(of, ARGUMENT, x -> x.skid(0, true, n[0], n[1], n[2], n[3])));
            all.add(new Refused(of, ARGUMENT, x -> x.skid(1, false, n[0], n[1], n[2], n[3])));
            all.add(new Refused(of + " and no CAR", INDEX, x -> x.skid(2, false, n[0], n[1], n[2], n[3])));
        }
        for (int car : Scene.NO_CARS) {
            all.add(new Refused("skid of no CAR", INDEX, x -> x.skid(car, false, 0, 2000, 0, 150)));
        }
        if (full) {
            all.add(new Refused("skid 12", FULL, x -> x.skid(0, false, 0, 2000, 0, 150)));
            all.add(new Refused("skid 12", FULL, x -> x.skid(1, true, 0, 0, 0, 0)));
        }
    }

    private static void noSkids(List<Refused> all, int told) {
        for (int skid : new int[] {-1, told, 12, Scene.LOWEST, Scene.HIGHEST}) {
            all.add(new Refused("drop(" + skid + ")", INDEX, x -> x.drop(skid, true)));
            all.add(new Refused("again(" + skid + ")", INDEX, x -> x.drop(skid, false)));
            for (int what : new int[] {-1, 0, 4, 5}) {
                all.add(new Refused("look(" + skid + ", " + what + ")", INDEX, x -> x.look(skid, what)));
            }
        }
        for (int what : new int[] {-1, 5, Scene.LOWEST, Scene.HIGHEST}) {
            for (int skid = 0; skid < told; skid += 2) {
                int s = skid;
                all.add(new Refused("look(" + s + ", " + what + ")", NO_SUCH, x -> x.look(s, what)));
            }
        }
    }

    private static void spans(List<Refused> all) {
        for (int[] n : Scene.NO_SPANS) {
            String of = "sure of " + n[0] + " to " + n[1];
            for (int speed = 0; speed < 6; speed++) {
                int s = speed;
                all.add(new Refused(of, ARGUMENT, x -> x.sure(s / 3, s % 3, n[0], n[1])));
            }
            all.add(new Refused(of + " and no CAR", INDEX, x -> x.sure(-1, 0, n[0], n[1])));
            all.add(new Refused(of + " and no SPEED", INDEX, x -> x.sure(1, 3, n[0], n[1])));
        }
        for (int speed : Scene.NO_SPEEDS) {
            all.add(new Refused("sure of no SPEED", INDEX, x -> x.sure(0, speed, 1, 1)));
        }
        for (int car : Scene.NO_CARS) {
            all.add(new Refused("sure of no CAR", INDEX, x -> x.sure(car, 1, 1, 1)));
        }
    }

    private static void tales(List<Refused> all, boolean full) {
        for (int[] n : Scene.NO_SPANS) {
            String of = "tale of " + n[0] + " to " + n[1];
            for (int speed = 0; speed < 6; speed++) {
                int s = speed;
                all.add(new Refused(of, ARGUMENT, x -> x.tale(s / 3, s % 3, n[0], n[1])));
            }
            all.add(new Refused(of + " and no CAR", INDEX, x -> x.tale(2, 0, n[0], n[1])));
            all.add(new Refused(of + " and no SPEED", INDEX, x -> x.tale(0, -1, n[0], n[1])));
        }
        for (int speed : Scene.NO_SPEEDS) {
            all.add(new Refused("tale of no SPEED", INDEX, x -> x.tale(1, speed, 0, 0)));
        }
        for (int car : Scene.NO_CARS) {
            all.add(new Refused("tale of no CAR", INDEX, x -> x.tale(car, 2, 0, 0)));
        }
        if (full) {
            all.add(new Refused("tale 10", FULL, x -> x.tale(0, 0, -50, 50)));
            all.add(new Refused("tale 10", FULL, x -> x.tale(1, 2, 0, 0)));
        }
    }

    private static void questions(List<Refused> all, boolean noWay) {
        for (int car : Scene.NO_CARS) {
            all.add(new Refused("span of no CAR", INDEX, x -> x.span(car, 0, false, false)));
            all.add(new Refused("span of no CAR and no SPEED", INDEX, x -> x.span(car, 3, true, true)));
            all.add(new Refused("can of no CAR", INDEX, x -> x.can(car, 0, 0)));
            all.add(new Refused("can of no CAR and no number", INDEX, x -> x.can(car, 2, 51)));
            all.add(new Refused("avoided by no CAR", INDEX, x -> x.avoided(car, 0, 0)));
            all.add(new Refused("avoided by no CAR, no room", INDEX, x -> x.avoided(car, -1, 151)));
        }
        for (int speed : Scene.NO_SPEEDS) {
            all.add(new Refused("span of no SPEED", INDEX, x -> x.span(0, speed, true, false)));
            all.add(new Refused("span of no SPEED", INDEX, x -> x.span(1, speed, false, true)));
            all.add(new Refused("can of no SPEED", INDEX, x -> x.can(1, speed, 0)));
        }
        for (int[] n : Scene.NO_ROOMS) {
            all.add(new Refused("avoided, " + n[0] + ", " + n[1], ARGUMENT, x -> x.avoided(0, n[0], n[1])));
            all.add(new Refused("avoided, " + n[0] + ", " + n[1], ARGUMENT, x -> x.avoided(1, n[0], n[1])));
        }
        if (noWay) {
            all.add(new Refused("span without a WAY", NO_SUCH, x -> x.span(0, 0, false, false)));
            all.add(new Refused("span without a WAY", NO_SUCH, x -> x.span(1, 2, true, true)));
            all.add(new Refused("avoided without a WAY", NO_SUCH, x -> x.avoided(1, 2000, 150)));
        }
    }
}
