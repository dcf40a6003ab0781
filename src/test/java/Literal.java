import java.util.NoSuchElementException;

/** The document word by word and as slowly as that is: what CrashDesk is held against. */
final class Literal {
    /** What all WAYS show together. */
    private static final class Shown {
        long ways = 0;
        final boolean[][] seen = new boolean[6][101];
        final boolean[] falseSets = new boolean[1024];
    }

    private final int[] mass = {10, 10};
    private final int[][] skids = new int[12][];
    private final boolean[] behind = new boolean[12];
    private final boolean[] dropped = new boolean[12];
    private final int[][] spans = new int[6][];
    private final int[][] tales = new int[10][];
    private int skidCount = 0;
    private int taleCount = 0;
    private Shown plain = null;

    Literal() {
        for (int s = 0; s < 6; s++) {
            spans[s] = new int[] {-50, 50};
        }
    }

    void mass(int car, int n) {
        car(car);
        argument(n >= 1 && n <= 100);
        mass[car] = n;
        plain = null;
    }

    int skid(int car, boolean isBehind, int low, int high, int least, int most) {
        car(car);
        argument(low >= 0 && low <= 2000 && high >= 0 && high <= 2000 && low <= high);
        argument(least >= 0 && least <= 150 && most >= 0 && most <= 150 && least <= most);
        room(skidCount < 12);
        skids[skidCount] = new int[] {car, low * least, high * most};
        behind[skidCount] = isBehind;
        plain = null;
        return skidCount++;
    }

    boolean drop(int skid, boolean is) {
        index(skid >= 0 && skid < skidCount);
        boolean other = dropped[skid] != is;
        dropped[skid] = is;
        plain = null;
        return other;
    }

    void sure(int car, int speed, int low, int high) {
        speed(car, speed);
        argument(-50 <= low && low <= high && high <= 50);
        spans[car * 3 + speed] = new int[] {low, high};
        plain = null;
    }

    int tale(int car, int speed, int low, int high) {
        speed(car, speed);
        argument(-50 <= low && low <= high && high <= 50);
        room(taleCount < 10);
        tales[taleCount] = new int[] {car * 3 + speed, low, high};
        plain = null;
        return taleCount++;
    }

    int hush() {
        int told = taleCount;
        taleCount = 0;
        plain = null;
        return told;
    }

    long ways() {
        return plain().ways;
    }

    int span(int car, int speed, boolean most, boolean withTales) {
        speed(car, speed);
        Shown of = withTales ? show((1 << taleCount) - 1, -1) : plain();
        way(of.ways > 0);
        int found = -99;
        for (int n = -50; n <= 50; n++) {
            if (of.seen[car * 3 + speed][n + 50] && (most || found == -99)) {
                found = n;
            }
        }
        return found;
    }

    boolean fit(int set) {
        int asked = set & ((1 << taleCount) - 1);
        for (int f = 0; f < 1024; f++) {
            if (plain().falseSets[f] && (f & asked) == 0) {
                return true;
            }
        }
        return false;
    }

    int wrong() {
        int least = -1;
        for (int f = 0; f < 1024; f++) {
            if (plain().falseSets[f] && (least == -1 || Integer.bitCount(f) < least)) {
                least = Integer.bitCount(f);
            }
        }
        return least;
    }

    int which() {
        int least = wrong();
        for (int f = 0; f < 1024; f++) {
            if (plain().falseSets[f] && Integer.bitCount(f) == least) {
                return f;
            }
        }
        return -1;
    }

    int odds() {
        if (plain().ways > 0) {
            return 0;
        }
        int bits = 0;
        for (int i = 0; i < skidCount; i++) {
            if (!dropped[i] && show(0, i).ways > 0) {
                bits += 1 << i;
            }
        }
        return bits;
    }

    int avoided(int car, int room, int grip) {
        car(car);
        argument(room >= 0 && room <= 2000 && grip >= 0 && grip <= 150);
        way(plain().ways > 0);
        int so = 0;
        int not = 0;
        for (int n = -50; n <= 50; n++) {
            if (plain().seen[car * 3][n + 50]) {
                if (51 * n * n <= room * grip) {
                    so++;
                } else {
                    not++;
                }
            }
        }
        return not == 0 ? 2 : so > 0 ? 1 : 0;
    }

    int look(int skid, int what) {
        index(skid >= 0 && skid < skidCount);
        int[] all = {skids[skid][0], behind[skid] ? 1 : 0, skids[skid][1], skids[skid][2], dropped[skid] ? 0 : 1};
        way(what >= 0 && what <= 4);
        return all[what];
    }

    boolean can(int car, int speed, int n) {
        speed(car, speed);
        return n >= -50 && n <= 50 && plain().seen[car * 3 + speed][n + 50];
    }

    int count(int what) {
        int counting = 0;
        for (int i = 0; i < skidCount; i++) {
            counting += dropped[i] ? 0 : 1;
        }
        int[] all = {skidCount, counting, taleCount, mass[0], mass[1]};
        return what >= 0 && what <= 4 ? all[what] : -1;
    }

    private Shown plain() {
        if (plain == null) {
            plain = show(0, -1);
        }
        return plain;
    }

    /** All WAYS by which the asked TALES are so, when one SKID does not count. */
    private Shown show(int asked, int without) {
        Shown shown = new Shown();
        int[][] firsts0 = firsts(0, without);
        int[][] firsts1 = firsts(1, without);
        int m = mass[0];
        int w = mass[1];
        for (int at0 = spans[1][0]; at0 <= spans[1][1]; at0++) {
            for (int at1 = spans[4][0]; at1 <= spans[4][1]; at1++) {
                for (int after0 = spans[2][0]; after0 <= spans[2][1]; after0++) {
                    int left = m * at0 + w * at1 - m * after0;
                    if (left % w != 0 || at0 <= at1) {
                        continue;
                    }
                    int after1 = left / w;
                    boolean is = after1 >= spans[5][0] && after1 <= spans[5][1] && after0 <= after1
                        && m * at0 * at0 + w * at1 * at1 >= m * after0 * after0 + w * after1 * after1
                        && stops(0, after0, without) && stops(1, after1, without);
                    if (is) {
                        for (int first0 : firsts0[at0 + 50]) {
                            for (int first1 : firsts1[at1 + 50]) {
                                add(shown, asked, new int[] {first0, at0, after0, first1, at1, after1});
                            }
                        }
                    }
                }
            }
        }
        return shown;
    }

    private void add(Shown shown, int asked, int[] way) {
        int not = 0;
        for (int t = 0; t < taleCount; t++) {
            int n = way[tales[t][0]];
            not += n < tales[t][1] || n > tales[t][2] ? 1 << t : 0;
        }
        if ((not & asked) == 0) {
            shown.ways++;
            shown.falseSets[not] = true;
            for (int s = 0; s < 6; s++) {
                shown.seen[s][way[s] + 50] = true;
            }
        }
    }

    /** For each AT of a CAR, the numbers that FIRST may be. */
    private int[][] firsts(int car, int without) {
        int[][] all = new int[101][];
        for (int at = -50; at <= 50; at++) {
            int[] some = new int[101];
            int count = 0;
            for (int first = spans[car * 3][0]; first <= spans[car * 3][1]; first++) {
                boolean side = at > 0 ? first > 0 : at < 0 ? first < 0 : first >= 0;
                int[] sums = sums(car, false, without);
                int taken = 51 * first * first - 51 * at * at;
                if (side && sums[0] <= taken && taken <= sums[1]) {
                    some[count++] = first;
                }
            }
            all[at + 50] = java.util.Arrays.copyOf(some, count);
        }
        return all;
    }

    private boolean stops(int car, int after, int without) {
        int[] sums = sums(car, true, without);
        int taken = 51 * after * after;
        return sums[2] == 0 || sums[0] <= taken && taken <= sums[1];
    }

    /** The least sum, the greatest one, and of how many SKIDS. */
    private int[] sums(int car, boolean isBehind, int without) {
        int[] sums = new int[3];
        for (int i = 0; i < skidCount; i++) {
            if (!dropped[i] && i != without && skids[i][0] == car && behind[i] == isBehind) {
                sums[0] += skids[i][1];
                sums[1] += skids[i][2];
                sums[2]++;
            }
        }
        return sums;
    }

    private static void car(int car) {
        index(car == 0 || car == 1);
    }

    private static void speed(int car, int speed) {
        car(car);
        index(speed >= 0 && speed <= 2);
    }

    private static void index(boolean is) {
        if (!is) {
            throw new IndexOutOfBoundsException();
        }
    }

    private static void argument(boolean is) {
        if (!is) {
            throw new IllegalArgumentException();
        }
    }

    private static void room(boolean is) {
        if (!is) {
            throw new UnsupportedOperationException();
        }
    }

    private static void way(boolean is) {
        if (!is) {
            throw new NoSuchElementException();
        }
    }
}
