import java.util.NoSuchElementException;

/** A desk that reckons how two cars met: all WAYS by which whole SPEEDS agree with the scene. */
public final class CrashDesk {
    public static final int NONE = -1;

    private static final int CARS = 2;
    private static final int FIRST = 0;
    private static final int AT = 1;
    private static final int AFTER = 2;
    private static final int SLOWEST = -50;
    private static final int FASTEST = 50;
    private static final int NUMBERS = FASTEST - SLOWEST + 1;
    private static final int MASS_AT_FIRST = 10;
    private static final int MOST_MASS = 100;
    private static final int MOST_LENGTH = 2000;
    private static final int MOST_GRIP = 150;
    private static final int MOST_SKIDS = 12;
    private static final int MOST_TALES = 10;

    /** What SPEED times SPEED is worth in LENGTH times GRIP. */
    private static final int WORTH = 51;

    /**
     * The price of a number of a SPEED: this much for each TALE that it makes false, and the TALE's
     * bit. A TALE is of one SPEED alone, so the prices of six SPEEDS add up without a carry, and
     * the least sum tells FALSE above the bits and WHICH in them.
     */
    private static final int ONE_FALSE = 1 << MOST_TALES;

    private final Skid[] skids = new Skid[MOST_SKIDS];
    private final Tale[] tales = new Tale[MOST_TALES];
    private int skidCount = 0;
    private int taleCount = 0;

    private final Meeting meeting = new Meeting();

    // What the meeting shows stays good for the same question until something else is told.
    private boolean reckoned = false;
    private int reckonedTales = 0;
    private int reckonedWithout = NONE;

    public CrashDesk() {
        for (int i = 0; i < MOST_SKIDS; i++) {
            skids[i] = new Skid();
        }
        for (int i = 0; i < MOST_TALES; i++) {
            tales[i] = new Tale();
        }
    }

    public void mass(int car, int n) throws IndexOutOfBoundsException, IllegalArgumentException {
        Car meant = carOf(car);
        testNumber(n, 1, MOST_MASS);
        meant.mass = n;
        reckoned = false;
    }

    public int skid(int car, boolean behind, int low, int high, int least, int most)
            throws IndexOutOfBoundsException, IllegalArgumentException, UnsupportedOperationException {
        testCar(car);
        testSpan(low, high, 0, MOST_LENGTH);
        testSpan(least, most, 0, MOST_GRIP);
        if (skidCount >= MOST_SKIDS) {
            throw new UnsupportedOperationException("no more skids");
        }
        Skid told = skids[skidCount];
        told.car = car;
        told.behind = behind;
        told.least = low * least;
        told.greatest = high * most;
        told.counts = true;
        skidCount++;
        reckoned = false;
        return skidCount - 1;
    }

    public boolean drop(int skid, boolean is) throws IndexOutOfBoundsException {
        Skid meant = skidOf(skid);
        if (meant.counts != is) {
            return false;
        }
        meant.counts = !is;
        reckoned = false;
        return true;
    }

    public void sure(int car, int speed, int low, int high)
            throws IndexOutOfBoundsException, IllegalArgumentException {
        Speed meant = speedOf(car, speed);
        testSpan(low, high, SLOWEST, FASTEST);
        meant.low = low;
        meant.high = high;
        reckoned = false;
    }

    public int tale(int car, int speed, int low, int high)
            throws IndexOutOfBoundsException, IllegalArgumentException, UnsupportedOperationException {
        testSpeed(car, speed);
        testSpan(low, high, SLOWEST, FASTEST);
        if (taleCount >= MOST_TALES) {
            throw new UnsupportedOperationException("no more tales");
        }
        Tale told = tales[taleCount];
        told.car = car;
        told.speed = speed;
        told.low = low;
        told.high = high;
        taleCount++;
        reckoned = false;
        return taleCount - 1;
    }

    public int hush() {
        int told = taleCount;
        taleCount = 0;
        reckoned = false;
        return told;
    }

    public long ways() {
        reckon(0, NONE);
        return meeting.wayCount;
    }

    public int span(int car, int speed, boolean most, boolean tales)
            throws IndexOutOfBoundsException, NoSuchElementException {
        Speed meant = speedOf(car, speed);
        reckon(tales ? allTales() : 0, NONE);
        testWay();
        return most ? meant.greatestSeen() : meant.leastSeen();
    }

    public boolean fit(int tales) {
        reckon(tales & allTales(), NONE);
        return meeting.wayCount > 0;
    }

    public int wrong() {
        reckon(0, NONE);
        return meeting.cheapest == NONE ? NONE : meeting.cheapest / ONE_FALSE;
    }

    public int which() {
        reckon(0, NONE);
        return meeting.cheapest == NONE ? NONE : meeting.cheapest % ONE_FALSE;
    }

    public int odds() {
        reckon(0, NONE);
        if (meeting.wayCount > 0) {
            return 0;
        }
        int bits = 0;
        for (int i = 0; i < skidCount; i++) {
            if (skids[i].counts) {
                reckon(0, i);
                bits |= meeting.wayCount > 0 ? 1 << i : 0;
            }
        }
        return bits;
    }

    public int avoided(int car, int room, int grip)
            throws IndexOutOfBoundsException, IllegalArgumentException, NoSuchElementException {
        Speed first = carOf(car).first;
        testNumber(room, 0, MOST_LENGTH);
        testNumber(grip, 0, MOST_GRIP);
        reckon(0, NONE);
        testWay();
        boolean all = true;
        boolean some = false;
        for (int n = SLOWEST; n <= FASTEST; n++) {
            if (first.isSeen(n)) {
                boolean stops = WORTH * n * n <= room * grip;
                all = all && stops;
                some = some || stops;
            }
        }
        return all ? 2 : some ? 1 : 0;
    }

    public int look(int skid, int what) throws IndexOutOfBoundsException, NoSuchElementException {
        Skid meant = skidOf(skid);
        switch (what) {
            case 0:
                return meant.car;
            case 1:
                return meant.behind ? 1 : 0;
            case 2:
                return meant.least;
            case 3:
                return meant.greatest;
            case 4:
                return meant.counts ? 1 : 0;
            default:
                throw new NoSuchElementException("nothing such to look at");
        }
    }

    public boolean can(int car, int speed, int n) throws IndexOutOfBoundsException {
        Speed meant = speedOf(car, speed);
        reckon(0, NONE);
        return meant.isSeen(n);
    }

    public int count(int what) {
        switch (what) {
            case 0:
                return skidCount;
            case 1:
                return countingSkids();
            case 2:
                return taleCount;
            case 3:
                return meeting.zero.mass;
            case 4:
                return meeting.one.mass;
            default:
                return NONE;
        }
    }

    private int countingSkids() {
        int counting = 0;
        for (int i = 0; i < skidCount; i++) {
            counting += skids[i].counts ? 1 : 0;
        }
        return counting;
    }

    private int allTales() {
        return (1 << taleCount) - 1;
    }

    private static void testCar(int car) {
        if (car < 0 || car >= CARS) {
            throw new IndexOutOfBoundsException("no such car");
        }
    }

    private static void testSpeed(int car, int speed) {
        testCar(car);
        if (speed < FIRST || speed > AFTER) {
            throw new IndexOutOfBoundsException("no such speed");
        }
    }

    private static void testNumber(int n, int bottom, int top) {
        if (n < bottom || n > top) {
            throw new IllegalArgumentException("no such number");
        }
    }

    private static void testSpan(int low, int high, int bottom, int top) {
        if (low < bottom || low > high || high > top) {
            throw new IllegalArgumentException("no such span");
        }
    }

    private void testWay() {
        if (meeting.wayCount == 0) {
            throw new NoSuchElementException("no way");
        }
    }

    private Car carOf(int car) {
        testCar(car);
        return meeting.pick(car);
    }

    private Speed speedOf(int car, int speed) {
        testSpeed(car, speed);
        return carOf(car).pick(speed);
    }

    private Skid skidOf(int skid) {
        if (skid < 0 || skid >= skidCount) {
            throw new IndexOutOfBoundsException("no such skid");
        }
        return skids[skid];
    }

    /** Reckons all WAYS by which the asked TALES (bits) are so, as if one SKID did not count. */
    private void reckon(int asked, int without) {
        if (reckoned && asked == reckonedTales && without == reckonedWithout) {
            return;
        }
        meeting.zero.clear();
        meeting.one.clear();
        for (int i = 0; i < taleCount; i++) {
            Tale told = tales[i];
            int bit = 1 << i;
            Speed meant = meeting.pick(told.car).pick(told.speed);
            meant.hear(told, (asked & bit) != 0 ? NONE : ONE_FALSE + bit);
        }
        for (int i = 0; i < skidCount; i++) {
            if (skids[i].counts && i != without) {
                meeting.pick(skids[i].car).add(skids[i]);
            }
        }
        meeting.reckon();
        reckoned = true;
        reckonedTales = asked;
        reckonedWithout = without;
    }

    /** The less of two prices, where the one that is known may be NONE. */
    private static int cheaper(int known, int price) {
        return known == NONE || price < known ? price : known;
    }

    /** A SKID as it was told; the desk makes all of them at once and fills them as they come. */
    private static final class Skid {
        int car = 0;
        boolean behind = false;
        int least = 0;
        int greatest = 0;
        boolean counts = false;
    }

    /** A TALE as it was told; made like the SKIDS. */
    private static final class Tale {
        int car = 0;
        int speed = 0;
        int low = 0;
        int high = 0;
    }

    /** One of the six SPEEDS: its SPAN, the price of each number, and which numbers WAYS show. */
    private static final class Speed {
        int low = SLOWEST;
        int high = FASTEST;

        // No number below the bottom or above the top is open.
        int bottom = SLOWEST;
        int top = FASTEST;
        private final int[] prices = new int[NUMBERS];
        private final boolean[] seen = new boolean[NUMBERS];

        void clear() {
            for (int n = SLOWEST; n <= FASTEST; n++) {
                setPrice(n, n < low || n > high ? NONE : 0);
                seen[n - SLOWEST] = false;
            }
        }

        /** Adds to the price of each number that makes the TALE false, or rules it out (NONE). */
        void hear(Tale told, int more) {
            for (int n = SLOWEST; n <= FASTEST; n++) {
                boolean isSo = n >= told.low && n <= told.high;
                if (!isSo && isOpen(n)) {
                    setPrice(n, more == NONE ? NONE : priceOf(n) + more);
                }
            }
        }

        /** NONE for a number that is ruled out. */
        int priceOf(int n) {
            return n < SLOWEST || n > FASTEST ? NONE : prices[n - SLOWEST];
        }

        boolean isOpen(int n) {
            return priceOf(n) != NONE;
        }

        void setPrice(int n, int price) {
            if (n >= SLOWEST && n <= FASTEST) {
                prices[n - SLOWEST] = price;
            }
        }

        void bound() {
            bottom = FASTEST + 1;
            top = SLOWEST - 1;
            for (int n = SLOWEST; n <= FASTEST; n++) {
                if (isOpen(n)) {
                    bottom = Math.min(bottom, n);
                    top = n;
                }
            }
        }

        void see(int n) {
            if (n >= SLOWEST && n <= FASTEST) {
                seen[n - SLOWEST] = true;
            }
        }

        boolean isSeen(int n) {
            return n >= SLOWEST && n <= FASTEST && seen[n - SLOWEST];
        }

        /** Asked only when there is a WAY, so that some number is seen. */
        int leastSeen() {
            for (int n = SLOWEST; n < FASTEST; n++) {
                if (isSeen(n)) {
                    return n;
                }
            }
            return FASTEST;
        }

        /** Asked only when there is a WAY, so that some number is seen. */
        int greatestSeen() {
            for (int n = FASTEST; n > SLOWEST; n--) {
                if (isSeen(n)) {
                    return n;
                }
            }
            return SLOWEST;
        }
    }

    /** A CAR: what its own marks say of its SPEEDS, before the other CAR is looked at. */
    private static final class Car {
        int mass = MASS_AT_FIRST;
        final Speed first = new Speed();
        final Speed at = new Speed();
        final Speed after = new Speed();
        private final int[] firstCounts = new int[NUMBERS];
        private int aheadLeast = 0;
        private int aheadGreatest = 0;
        private int behindLeast = 0;
        private int behindGreatest = 0;
        private boolean skidsBehind = false;

        Speed pick(int speed) {
            return speed == FIRST ? first : speed == AT ? at : after;
        }

        void clear() {
            first.clear();
            at.clear();
            after.clear();
            aheadLeast = 0;
            aheadGreatest = 0;
            behindLeast = 0;
            behindGreatest = 0;
            skidsBehind = false;
        }

        /** Any whole number between the sums is the sum of some giving, so the sums are enough. */
        void add(Skid skid) {
            if (skid.behind) {
                behindLeast += skid.least;
                behindGreatest += skid.greatest;
                skidsBehind = true;
            } else {
                aheadLeast += skid.least;
                aheadGreatest += skid.greatest;
            }
        }

        void settle() {
            for (int n = SLOWEST; n <= FASTEST; n++) {
                if (skidsBehind && !isTakenBehind(n)) {
                    after.setPrice(n, NONE);
                }
                if (at.isOpen(n)) {
                    joinFirsts(n);
                }
            }
            at.bound();
            after.bound();
        }

        /** How many numbers of FIRST lead to this number of AT, which must be open. */
        int firstCount(int n) {
            return n < SLOWEST || n > FASTEST ? 0 : firstCounts[n - SLOWEST];
        }

        /** FIRST bears on the other SPEEDS by AT alone: so it is seen once AT is. */
        void seeFirsts() {
            for (int n = at.bottom; n <= at.top; n++) {
                for (int pace = Math.abs(n); at.isSeen(n) && pace <= FASTEST; pace++) {
                    if (isTakenAhead(pace, n) && first.isOpen(firstFor(pace, n))) {
                        first.see(firstFor(pace, n));
                    }
                }
            }
        }

        /** Counts the numbers of FIRST for one of AT, and puts the cheapest one on AT's price. */
        private void joinFirsts(int n) {
            int leading = 0;
            int cheapest = NONE;
            // No SKID takes less than 0, so that FIRST is never slower than AT.
            for (int pace = Math.abs(n); pace <= FASTEST; pace++) {
                int price = isTakenAhead(pace, n) ? first.priceOf(firstFor(pace, n)) : NONE;
                if (price != NONE) {
                    leading++;
                    cheapest = cheaper(cheapest, price);
                }
            }
            if (n >= SLOWEST && n <= FASTEST) {
                firstCounts[n - SLOWEST] = leading;
            }
            at.setPrice(n, cheapest == NONE ? NONE : at.priceOf(n) + cheapest);
        }

        private static int firstFor(int pace, int at) {
            return at < 0 ? -pace : pace;
        }

        private boolean isTakenAhead(int pace, int at) {
            int taken = WORTH * pace * pace - WORTH * at * at;
            return taken >= aheadLeast && taken <= aheadGreatest;
        }

        private boolean isTakenBehind(int after) {
            int taken = WORTH * after * after;
            return taken >= behindLeast && taken <= behindGreatest;
        }
    }

    /** Both CARS as they meet: how many WAYS there are, and the least price of one. */
    private static final class Meeting {
        final Car zero = new Car();
        final Car one = new Car();
        long wayCount = 0;
        int cheapest = NONE;

        // What one push takes from CAR 0 and gives CAR 1: as pushes are kept and SPEEDS are whole,
        // what they change by is a whole number of times this.
        private int loss = 1;
        private int gain = 1;

        Car pick(int car) {
            return car == 0 ? zero : one;
        }

        void reckon() {
            wayCount = 0;
            cheapest = NONE;
            loss = lowestShare(one.mass, zero.mass);
            gain = lowestShare(zero.mass, one.mass);
            zero.settle();
            one.settle();
            for (int fast = zero.at.bottom; fast <= zero.at.top; fast++) {
                if (zero.at.isOpen(fast)) {
                    pushFrom(fast);
                }
            }
            zero.seeFirsts();
            one.seeFirsts();
        }

        /** The mass, freed of every part that it shares with the other one. */
        private static int lowestShare(int mass, int other) {
            for (int part = MOST_MASS; part > 1; part--) {
                if (mass % part == 0 && other % part == 0) {
                    return mass / part;
                }
            }
            return mass;
        }

        private void pushFrom(int fast) {
            for (int push = 1; push <= NUMBERS && fast - push * loss >= zero.after.bottom; push++) {
                if (zero.after.isOpen(fast - push * loss)) {
                    meet(fast, push);
                }
            }
        }

        /**
         * Adds all WAYS with this AT of CAR 0 and so many pushes. The pushes must close the gap
         * between both AT, or CAR 0 would go through CAR 1. The strength lost is loss times MASS of
         * CAR 0 times pushes times (twice the gap less what they close): closing more than twice
         * the gap would gain strength.
         */
        private void meet(int fast, int push) {
            int given = push * gain;
            int closed = push * (loss + gain);
            int from = Math.max(fast - closed, Math.max(one.at.bottom, one.after.bottom - given));
            int to = Math.min(fast - (closed + 1) / 2, Math.min(one.at.top, one.after.top - given));
            // The rows below have no other numbers; what is given is 1 at least.
            from = Math.max(from, SLOWEST);
            to = Math.min(to, FASTEST - given);
            long met = 0;
            int price = NONE;
            for (int slow = from; slow <= to; slow++) {
                int atPrice = one.at.prices[slow - SLOWEST];
                int afterPrice = one.after.prices[slow + given - SLOWEST];
                if (atPrice != NONE && afterPrice != NONE) {
                    met += one.firstCounts[slow - SLOWEST];
                    price = cheaper(price, atPrice + afterPrice);
                    one.at.seen[slow - SLOWEST] = true;
                    one.after.seen[slow + given - SLOWEST] = true;
                }
            }
            if (met > 0) {
                int left = fast - push * loss;
                zero.at.see(fast);
                zero.after.see(left);
                wayCount += met * zero.firstCount(fast);
                cheapest = cheaper(cheapest, price + zero.at.priceOf(fast) + zero.after.priceOf(left));
            }
        }
    }
}
