import java.util.NoSuchElementException;

/** Each sentence of 'Promise 1' to 'Promise 17' that names a bound, nothing told, and everything full. */
final class PromiseEdgesTest {
    private static final Class<IndexOutOfBoundsException> INDEX = IndexOutOfBoundsException.class;
    private static final Class<IllegalArgumentException> ARGUMENT = IllegalArgumentException.class;
    private static final Class<UnsupportedOperationException> FULL = UnsupportedOperationException.class;
    private static final Class<NoSuchElementException> NO_SUCH = NoSuchElementException.class;

    public static void main(String[] args) {
        newDesk();
        desksAreTheirOwn();
        massOfACar();
        skidNumber();
        skidNoNumber();
        skidOnItsSide();
        dropWasOtherwise();
        dropNoSkid();
        dropAllAndAgain();
        spanOfASpeed();
        spanNoSpan();
        taleNumber();
        taleNoSpan();
        hushFromNothingToTen();
        hushTellsAnew();
        waysOfNothingAndOfAll();
        spanLeastAndGreatest();
        spanWithTalesOrWithout();
        fitOthersCountForNothing();
        wrongFromNoneToTen();
        whichFromNothingToAll();
        oddsOfThoseThatCount();
        avoidedEdges();
        lookAtEach();
        lookAtNothingSuch();
        canAnyNumber();
        canWithoutWay();
        countOfNothingAndOfAll();
        countAnotherWhat();
        eachTellingIsHeard();
        Due.end("PromiseEdgesTest");
    }

    /** Promise 1: "MASS 10 of both; no SKIDS, no TALES" */
    private static void newDesk() {
        CrashDesk x = new CrashDesk();
        int[] due = {0, 0, 0, 10, 10};
        for (int what = 0; what < 5; what++) {
            int w = what;
            Due.is("count(" + w + ") of a new desk", due[w], () -> x.count(w));
        }
        Due.throwing("no SKID to look at", INDEX, () -> x.look(0, 0));
        Due.throwing("no SKID to drop", INDEX, () -> x.drop(0, true));
        Due.is("no SKID at odds", 0, x::odds);
        Due.is("no TALE is false", 0, x::wrong);
        Due.is("no TALE is false", 0, x::which);
        Due.is("any set fits", true, () -> x.fit(0) && x.fit(-1) && x.fit(1));
        Due.is("nothing to hush", 0, x::hush);
        Due.is("ways", 89625L, x::ways);
        x.sure(0, 1, 10, 10);
        x.sure(1, 1, 0, 0);
        Scene.canBe("10 and 10", x, 0, 2, 0, 1, 2, 3, 4, 5);
        Due.is("the first SKID", 0, () -> x.skid(0, false, 0, 0, 0, 0));
        Due.is("the first TALE", 0, () -> x.tale(0, 0, 0, 0));
    }

    /** Promise 1: a new object has nothing of another one. */
    private static void desksAreTheirOwn() {
        String due = Scene.all(new CrashDesk());
        CrashDesk x = new CrashDesk();
        x.mass(0, 1);
        x.mass(1, 100);
        x.sure(0, 0, 1, 2);
        fill(x);
        Due.same("a new desk beside another one", due, Scene.all(new CrashDesk()));
    }

    /** Promise 2: "MASS of a CAR" */
    private static void massOfACar() {
        CrashDesk x = Scene.meeting(10, 0);
        for (int n : new int[] {1, 100, 10, 100, 1}) {
            Due.goes("MASS of CAR 0", () -> x.mass(0, n));
            Due.is("MASS of CAR 0", n, () -> x.count(3));
            Due.is("MASS of CAR 1", 10, () -> x.count(4));
        }
        // 1 to 10 at a gap of 10: CAR 0 loses 10 with each push, and one push closes 11.
        Scene.canBe("1 and 10", x, 0, 2, 0);
        x.mass(1, 1);
        Scene.canBe("1 and 1", x, 0, 2, 0, 1, 2, 3, 4, 5);
        x.mass(0, 100);
        Due.is("100 and 1: one push closes 101, more than twice 10", 0L, x::ways);
        x.mass(1, 100);
        Scene.canBe("100 and 100", x, 0, 2, 0, 1, 2, 3, 4, 5);
        x.mass(0, 99);
        Due.is("99 and 100: one push closes 199", 0L, x::ways);
        for (int none : Scene.NO_MASSES) {
            Due.throwing("MASS " + none, ARGUMENT, () -> x.mass(0, none));
            Due.throwing("MASS " + none, ARGUMENT, () -> x.mass(1, none));
        }
        Due.is("MASS of CAR 0", 99, () -> x.count(3));
        Due.is("MASS of CAR 1", 100, () -> x.count(4));
    }

    /** Promise 3: "A SKID: its number"; "there are 12" */
    private static void skidNumber() {
        CrashDesk x = new CrashDesk();
        for (int i = 0; i < 12; i++) {
            int next = i;
            Due.is("its number", next, () -> x.skid(next / 6, next % 2 == 0, 0, 2000, 0, 150));
            Due.is("SKIDS", next + 1, () -> x.count(0));
        }
        Due.throwing("the thirteenth", FULL, () -> x.skid(0, false, 0, 2000, 0, 150));
        Due.throwing("the thirteenth, of nothing", FULL, () -> x.skid(1, true, 0, 0, 0, 0));
        Due.throwing("the thirteenth, of no numbers", ARGUMENT, () -> x.skid(1, true, 1, 0, 0, 0));
        Due.throwing("the thirteenth, of no CAR", INDEX, () -> x.skid(2, true, 1, 0, 0, 0));
        Due.is("SKIDS", 12, () -> x.count(0));
    }

    /** Promise 3: "a number is none, or the one above the other" */
    private static void skidNoNumber() {
        for (int kind = 0; kind < 4; kind++) {
            int car = kind / 2;
            boolean behind = kind % 2 == 1;
            CrashDesk x = new CrashDesk();
            for (int[] n : Scene.NO_SKIDS) {
                Due.throwing("skid of " + n[0] + " to " + n[1] + ", " + n[2] + " to " + n[3], ARGUMENT,
                    () -> x.skid(car, behind, n[0], n[1], n[2], n[3]));
            }
            Due.is("none was told", 0, () -> x.count(0));
            int[][] some = {{0, 0, 0, 0}, {2000, 2000, 150, 150}, {0, 2000, 0, 150}, {0, 1, 0, 1}, {1, 1, 1, 1}};
            for (int i = 0; i < some.length; i++) {
                int[] n = some[i];
                Due.is("skid of " + n[0] + " to " + n[1] + ", " + n[2] + " to " + n[3], i,
                    () -> x.skid(car, behind, n[0], n[1], n[2], n[3]));
            }
        }
    }

    /** Promise 3: a SKID is of the CAR, and ahead of the meeting or behind it, as it was told. */
    private static void skidOnItsSide() {
        for (int kind = 0; kind < 4; kind++) {
            int car = kind / 2;
            boolean behind = kind % 2 == 1;
            CrashDesk x = Scene.meeting(10, 0);
            x.skid(car, behind, 51, 51, 25, 25);
            Due.is("look 0", car, () -> x.look(0, 0));
            Due.is("look 1", behind ? 1 : 0, () -> x.look(0, 1));
            if (behind) {
                Scene.canBe("both part at 5", x, 0, 2, 5);
                Scene.canBe("both part at 5", x, 1, 2, 5);
            } else if (car == 0) {
                Due.is("125 is no square", 0L, x::ways);
                x.skid(car, false, 51, 51, 19, 19);
                Scene.canBe("144 is", x, 0, 0, 12);
                Scene.canBe("CAR 1 has none", x, 1, 0, 0);
            } else {
                Scene.canBe("25 is", x, 1, 0, 5);
                Scene.canBe("CAR 0 has none", x, 0, 0, 10);
            }
        }
    }

    /** Promise 4: "A SKID counts no more (is), or again: whether it was otherwise." */
    private static void dropWasOtherwise() {
        CrashDesk x = Scene.meeting(10, 0);
        x.skid(0, true, 51, 51, 9, 9);
        x.skid(0, true, 0, 0, 0, 0);
        boolean[] is = {false, true, true, false, false, true};
        boolean[] due = {false, true, false, true, false, true};
        for (int i = 0; i < is.length; i++) {
            boolean now = is[i];
            Due.is("drop " + now, due[i], () -> x.drop(0, now));
            Due.is("that count", now ? 1 : 2, () -> x.count(1));
            Due.is("SKIDS", 2, () -> x.count(0));
            Due.is("look 4", now ? 0 : 1, () -> x.look(0, 4));
            Due.is("the other one", 1, () -> x.look(1, 4));
            Scene.canBe("AFTER", x, 0, 2, now ? 0 : 3);
        }
        Due.is("the other one", true, () -> x.drop(1, true));
        Scene.canBe("AFTER without a SKID behind", x, 0, 2, 0, 1, 2, 3, 4, 5);
    }

    /** Promise 4: IndexOutOfBoundsException for what is no SKID yet */
    private static void dropNoSkid() {
        CrashDesk x = new CrashDesk();
        for (int told = 0; told <= 12; told++) {
            for (int skid : new int[] {-1, told, told + 1, 12, Scene.LOWEST, Scene.HIGHEST}) {
                Due.throwing("drop(" + skid + ") of " + told, INDEX, () -> x.drop(skid, true));
                Due.throwing("again(" + skid + ") of " + told, INDEX, () -> x.drop(skid, false));
                Due.throwing("look(" + skid + ") of " + told, INDEX, () -> x.look(skid, 0));
            }
            int last = told - 1;
            if (last >= 0) {
                for (int skid : new int[] {last, 0}) {
                    Due.is("drop(" + skid + ") of " + told, true, () -> x.drop(skid, true));
                    Due.is("again(" + skid + ") of " + told, true, () -> x.drop(skid, false));
                }
            }
            if (told < 12) {
                x.skid(0, false, 0, 0, 0, 0);
            }
        }
    }

    /** Promise 4 with none, with all */
    private static void dropAllAndAgain() {
        CrashDesk x = Scene.meeting(10, 0);
        for (int i = 0; i < 12; i++) {
            x.skid(i % 2, i % 4 < 2, 1, 1, 1, 1);
        }
        Due.is("no WAY with all", 0L, x::ways);
        for (int i = 0; i < 12; i++) {
            int skid = i;
            Due.is("drop " + skid, true, () -> x.drop(skid, true));
            Due.is("that count", 11 - skid, () -> x.count(1));
        }
        Due.is("as if none were told", 6L, x::ways);
        Due.is("none is at odds", 0, x::odds);
        for (int i = 11; i >= 0; i--) {
            int skid = i;
            Due.is("again " + skid, true, () -> x.drop(skid, false));
            Due.is("that count", 12 - skid, () -> x.count(1));
        }
        Due.is("no WAY with all again", 0L, x::ways);
    }

    /** Promise 5: "SPAN of a SPEED" */
    private static void spanOfASpeed() {
        for (int car = 0; car < 2; car++) {
            for (int speed = 0; speed < 3; speed++) {
                int c = car;
                int s = speed;
                CrashDesk x = new CrashDesk();
                for (int[] n : new int[][] {{-50, 50}, {-50, -50}, {50, 50}, {0, 0}, {-1, 0}, {-50, 0}, {0, 50}}) {
                    Due.goes("sure " + n[0] + " to " + n[1], () -> x.sure(c, s, n[0], n[1]));
                }
                Due.is("least", 0, () -> x.span(c, s, false, false));
                Due.is("greatest", c == 0 ? s == 2 ? 49 : 50 : s == 2 ? 50 : 49, () -> x.span(c, s, true, false));
            }
        }
    }

    /** Promise 5: "not - 50 to low to high to 50" */
    private static void spanNoSpan() {
        for (int car = 0; car < 2; car++) {
            for (int speed = 0; speed < 3; speed++) {
                int c = car;
                int s = speed;
                CrashDesk x = Scene.meeting(10, 0);
                String due = Scene.all(Scene.meeting(10, 0));
                for (int[] n : Scene.NO_SPANS) {
                    Due.throwing("sure " + n[0] + " to " + n[1], ARGUMENT, () -> x.sure(c, s, n[0], n[1]));
                }
                Due.same("after what is no SPAN", due, Scene.all(x));
            }
        }
    }

    /** Promise 6: "A TALE: its number"; "there are 10" */
    private static void taleNumber() {
        CrashDesk x = Scene.meeting(10, 0);
        for (int i = 0; i < 10; i++) {
            int next = i;
            Due.is("its number", next, () -> x.tale(next % 2, next % 3, -50, 50));
            Due.is("TALES", next + 1, () -> x.count(2));
        }
        Due.throwing("the eleventh", FULL, () -> x.tale(0, 0, -50, 50));
        Due.throwing("the eleventh, of no SPAN", ARGUMENT, () -> x.tale(0, 0, 1, 0));
        Due.throwing("the eleventh, of no SPEED", INDEX, () -> x.tale(0, 3, 1, 0));
        Due.throwing("the eleventh, of no CAR", INDEX, () -> x.tale(2, 0, 1, 0));
        Due.is("TALES", 10, () -> x.count(2));
        Due.is("none is false", 0, x::wrong);
    }

    /** Promise 6: "IllegalArgumentException likewise": not - 50 to low to high to 50 */
    private static void taleNoSpan() {
        for (int car = 0; car < 2; car++) {
            for (int speed = 0; speed < 3; speed++) {
                int c = car;
                int s = speed;
                CrashDesk x = Scene.meeting(10, 0);
                for (int[] n : Scene.NO_SPANS) {
                    Due.throwing("tale " + n[0] + " to " + n[1], ARGUMENT, () -> x.tale(c, s, n[0], n[1]));
                }
                Due.is("none was told", 0, () -> x.count(2));
                Due.is("- 50", 0, () -> x.tale(c, s, -50, -50));
                Due.is("50", 1, () -> x.tale(c, s, 50, 50));
                Due.is("- 50 to 50", 2, () -> x.tale(c, s, -50, 50));
                Due.is("two of three are false", 3, x::which);
            }
        }
    }

    /** Promise 7: "how many there were" */
    private static void hushFromNothingToTen() {
        CrashDesk x = Scene.meeting(10, 0);
        for (int told = 0; told <= 10; told++) {
            for (int i = 0; i < told; i++) {
                x.tale(1, 2, 11, 11);
            }
            int all = told;
            Due.is("hush of " + told, all, x::hush);
            Due.is("hush again", 0, x::hush);
            Due.is("TALES", 0, () -> x.count(2));
        }
        Due.is("SKIDS and WAYS stay", 6L, x::ways);
    }

    /** Promise 7: "Nothing is told any more of TALES" */
    private static void hushTellsAnew() {
        CrashDesk x = Scene.meeting(10, 0);
        fillTales(x);
        Due.is("all of ten are false", 1023, x::which);
        Due.throwing("with the TALES", NO_SUCH, () -> x.span(0, 2, false, true));
        Due.is("fit", false, () -> x.fit(512));
        x.hush();
        Due.is("wrong", 0, x::wrong);
        Due.is("which", 0, x::which);
        Due.is("fit of those that were told", true, () -> x.fit(1023));
        Due.is("least with no TALES", 0, () -> x.span(0, 2, false, true));
        Due.is("greatest with no TALES", 5, () -> x.span(0, 2, true, true));
        for (int i = 0; i < 10; i++) {
            int next = i;
            Due.is("numbered from 0 on again", next, () -> x.tale(0, 2, 5, 5));
            Due.is("only what is told anew", 0, x::wrong);
        }
        Due.throwing("ten again", FULL, () -> x.tale(0, 2, 5, 5));
    }

    /** Promise 8: "WAYS" */
    private static void waysOfNothingAndOfAll() {
        Due.is("nothing told", 89625L, () -> new CrashDesk().ways());
        CrashDesk x = Scene.meeting(10, 0);
        fill(x);
        Due.is("everything full", 6L * 41 * 51, x::ways);
        x.sure(0, 0, 10, 10);
        Due.is("one FIRST", 6L * 51, x::ways);
        x.sure(1, 0, 50, 50);
        Due.is("and one of the other CAR", 6L, x::ways);
        x.sure(0, 2, 5, 50);
        Due.is("and one AFTER", 1L, x::ways);
        x.sure(0, 2, 6, 50);
        Due.is("and none", 0L, x::ways);
    }

    /** Promise 9: "LEAST (most false) or GREATEST of a SPEED of a CAR" */
    private static void spanLeastAndGreatest() {
        CrashDesk x = Scene.meeting(50, -50);
        int[][] due = {{50, 50}, {50, 50}, {-50, 0}, {-50, -50}, {-50, -50}, {0, 50}};
        for (int s = 0; s < 6; s++) {
            Scene.spanIs("the widest gap", x, s / 3, s % 3, due[s][0], due[s][1]);
        }
        x.sure(0, 2, 0, 0);
        Scene.spanIs("one number is both", x, 0, 2, 0, 0);
        Scene.spanIs("one number is both", x, 1, 2, 0, 0);
        x.sure(0, 2, -50, -50);
        Scene.spanIs("- 50 is both", x, 0, 2, -50, -50);
        Scene.spanIs("50 is both", x, 1, 2, 50, 50);
        for (int speed : Scene.NO_SPEEDS) {
            Due.throwing("no SPEED", INDEX, () -> x.span(0, speed, false, false));
            Due.throwing("no SPEED", INDEX, () -> x.span(1, speed, true, true));
        }
    }

    /** Promise 9: "with the TALES, or without" */
    private static void spanWithTalesOrWithout() {
        CrashDesk x = Scene.meeting(10, 0);
        for (int i = 0; i < 10; i++) {
            x.tale(0, 2, i == 9 ? 5 : 0, 50);
            int least = i == 9 ? 5 : 0;
            Due.is("least with all of " + (i + 1), least, () -> x.span(0, 2, false, true));
            Due.is("least without them", 0, () -> x.span(0, 2, false, false));
        }
        x.sure(0, 2, 0, 4);
        Due.throwing("no WAY by which all of ten are so", NO_SUCH, () -> x.span(0, 2, false, true));
        Due.throwing("no WAY by which all of ten are so", NO_SUCH, () -> x.span(1, 0, true, true));
        Due.is("without them", 4, () -> x.span(0, 2, true, false));
        x.hush();
        Due.is("no TALES", 4, () -> x.span(0, 2, true, true));
        x.sure(0, 2, 6, 6);
        Due.throwing("no WAY", NO_SUCH, () -> x.span(0, 2, true, false));
        Due.throwing("no WAY, no TALES", NO_SUCH, () -> x.span(0, 2, true, true));
    }

    /** Promise 10: "FIT of a set (bits; others count for nothing)" */
    private static void fitOthersCountForNothing() {
        CrashDesk x = Scene.meeting(10, 0);
        for (int told = 0; told <= 10; told++) {
            int all = (1 << told) - 1;
            Due.is("none of " + told, true, () -> x.fit(0));
            Due.is("no bit of " + told, true, () -> x.fit(~all));
            Due.is("the next bit of " + told, true, () -> x.fit(all + 1));
            Due.is("the last bit of 32", true, () -> x.fit(Scene.LOWEST));
            Due.is("all bits of " + told, told == 0, () -> x.fit(-1));
            Due.is("all of " + told, told == 0, () -> x.fit(all));
            Due.is("all below the sign", told == 0, () -> x.fit(Scene.HIGHEST));
            if (told > 0) {
                int last = 1 << (told - 1);
                Due.is("the last of " + told, false, () -> x.fit(last));
                Due.is("the last of " + told + " and others", false, () -> x.fit(last | ~all));
            }
            if (told < 10) {
                x.tale(0, 2, 6, 50);
            }
        }
        x.hush();
        Due.is("none is told any more", true, () -> x.fit(-1));
        x.sure(0, 2, 6, 50);
        Due.is("no WAY", false, () -> x.fit(0) || x.fit(-1));
    }

    /** Promise 11: "FALSE; NONE" */
    private static void wrongFromNoneToTen() {
        Due.same("NONE", -1, CrashDesk.NONE);
        Due.is("nothing told", 0, () -> new CrashDesk().wrong());
        Due.is("no WAY", CrashDesk.NONE, () -> Scene.withoutWay().wrong());
        CrashDesk x = Scene.meeting(10, 0);
        for (int i = 0; i < 10; i++) {
            x.tale(i % 2, i / 2 % 3, i % 2 == 0 ? 11 : -50, i % 2 == 0 ? 50 : -1);
            int all = i + 1;
            Due.is("all of " + all, all, x::wrong);
            Due.is("all of " + all, (1 << all) - 1, x::which);
        }
        x.skid(0, false, 1, 1, 1, 1);
        Due.is("ten TALES, no WAY", CrashDesk.NONE, x::wrong);
        x.drop(0, true);
        Due.is("a WAY again", 10, x::wrong);
    }

    /** Promise 12: "WHICH, as bits; NONE without a WAY" */
    private static void whichFromNothingToAll() {
        Due.is("nothing told", 0, () -> new CrashDesk().which());
        Due.is("no WAY", CrashDesk.NONE, () -> Scene.withoutWay().which());
        for (int at = 0; at < 10; at++) {
            CrashDesk x = Scene.meeting(10, 0);
            for (int i = 0; i < 10; i++) {
                x.tale(i % 2, i % 3, i == at ? 11 : -50, 50);
            }
            Due.is("TALE " + at + " alone", 1 << at, x::which);
            Due.is("TALE " + at + " alone", 1, x::wrong);
        }
        // Ten TALES, five of which are so by AFTER 0, the other ones by AFTER 5.
        for (int low = 0; low < 2; low++) {
            CrashDesk x = Scene.meeting(10, 0);
            for (int i = 0; i < 10; i++) {
                int n = i % 2 == low ? 0 : 5;
                x.tale(0, 2, n, n);
            }
            Due.is("half of ten", 5, x::wrong);
            Due.is("of the least bits", 341, x::which);
            x.skid(0, false, 1, 1, 1, 1);
            Due.is("ten TALES, no WAY", CrashDesk.NONE, x::which);
        }
    }

    /** Promises 4, 13: "(AT ODDS asks of those that count.)" */
    private static void oddsOfThoseThatCount() {
        CrashDesk x = Scene.meeting(10, 0);
        for (int i = 0; i < 12; i++) {
            x.skid(0, false, i < 2 ? 1 : 0, 1, i < 2 ? 1 : 0, 1);
        }
        Due.is("two take 1 at least: no WAY without one of them", 0, x::odds);
        x.drop(0, true);
        Due.is("the one that counts", 2, x::odds);
        Due.is("it still counts", 1, () -> x.look(1, 4));
        Due.is("the other one still does not", 0, () -> x.look(0, 4));
        x.drop(0, false);
        x.drop(1, true);
        Due.is("the other one", 1, x::odds);
        x.drop(0, true);
        Due.is("a WAY with all that count", 0, x::odds);
        x.sure(0, 0, 9, 9);
        Due.is("no WAY, nor without one", 0, x::odds);
        for (int i = 2; i < 12; i++) {
            x.drop(i, true);
        }
        Due.is("no WAY, and none that counts", 0, x::odds);
        CrashDesk one = Scene.meeting(10, 0);
        one.skid(1, true, 0, 0, 0, 0);
        Due.is("AFTER of CAR 1 is no 0", 1, one::odds);
        one.drop(0, true);
        Due.is("nothing is asked of it", 0, one::odds);
    }

    /** Promise 14: "AVOIDED. IllegalArgumentException: room or GRIP are none." */
    private static void avoidedEdges() {
        CrashDesk x = Scene.meeting(1, 0);
        Due.is("51 times 1", 2, () -> x.avoided(0, 51, 1));
        Due.is("50 times 1", 0, () -> x.avoided(0, 50, 1));
        Due.is("all room, no GRIP", 0, () -> x.avoided(0, 2000, 0));
        Due.is("no room, all GRIP", 0, () -> x.avoided(0, 0, 150));
        Due.is("a CAR that stands, no room and no GRIP", 2, () -> x.avoided(1, 0, 0));
        Due.is("all room, all GRIP", 2, () -> x.avoided(0, 2000, 150));
        for (int[] n : Scene.NO_ROOMS) {
            Due.throwing("room " + n[0] + ", GRIP " + n[1], ARGUMENT, () -> x.avoided(0, n[0], n[1]));
            Due.throwing("the same, of no CAR", INDEX, () -> x.avoided(2, n[0], n[1]));
        }
        x.sure(0, 2, 9, 9);
        for (int[] n : Scene.NO_ROOMS) {
            Due.throwing("room " + n[0] + ", GRIP " + n[1] + ", no WAY", ARGUMENT, () -> x.avoided(1, n[0], n[1]));
        }
        Due.throwing("no WAY, no CAR", INDEX, () -> x.avoided(-1, 0, 0));
        Due.throwing("no WAY", NO_SUCH, () -> x.avoided(0, 0, 0));
    }

    /** Promise 15: "Of a SKID what 0 CAR, 1 1 if it is behind the meeting, else 0, 2 and 3 .., 4 1 if it counts" */
    private static void lookAtEach() {
        CrashDesk x = new CrashDesk();
        int[][] due = {{0, 0, 0, 0, 1}, {1, 1, 300000, 300000, 1}, {0, 1, 0, 300000, 0}, {1, 0, 6, 20, 0}};
        x.skid(0, false, 0, 0, 0, 0);
        x.skid(1, true, 2000, 2000, 150, 150);
        x.skid(0, true, 0, 2000, 0, 150);
        x.skid(1, false, 2, 4, 3, 5);
        x.drop(2, true);
        x.drop(3, true);
        for (int skid = 0; skid < 4; skid++) {
            for (int what = 0; what < 5; what++) {
                int s = skid;
                int w = what;
                Due.is("look(" + s + ", " + w + ")", due[s][w], () -> x.look(s, w));
            }
        }
    }

    /** Promise 15: "NoSuchElementException: another what." */
    private static void lookAtNothingSuch() {
        CrashDesk x = new CrashDesk();
        for (int told = 0; told <= 12; told++) {
            for (int what : new int[] {-1, 5, Scene.LOWEST, Scene.HIGHEST}) {
                int last = told - 1;
                int next = told;
                if (last >= 0) {
                    Due.throwing("look(" + last + ", " + what + ")", NO_SUCH, () -> x.look(last, what));
                    Due.throwing("look(0, " + what + ")", NO_SUCH, () -> x.look(0, what));
                }
                Due.throwing("look(" + next + ", " + what + ")", INDEX, () -> x.look(next, what));
                Due.throwing("look(-1, " + what + ")", INDEX, () -> x.look(-1, what));
            }
            if (told < 12) {
                x.skid(0, true, 0, 0, 0, 0);
                x.drop(told, told % 2 == 0);
            }
        }
    }

    /** Promise 16: "Whether a SPEED can be that number by some WAY": any number may be asked for. */
    private static void canAnyNumber() {
        CrashDesk x = new CrashDesk();
        x.skid(0, false, 0, 2000, 0, 150);
        x.skid(1, false, 0, 2000, 0, 150);
        int[][] due = {{-50, 50}, {-49, 50}, {-50, 49}, {-50, 50}, {-50, 49}, {-49, 50}};
        int[] far = {-100, 100, 256, -256, 65536, Scene.LOWEST, Scene.HIGHEST, Scene.LOWEST + 50,
            Scene.HIGHEST - 49, Scene.HIGHEST - 50, Scene.LOWEST + 49};
        for (int s = 0; s < 6; s++) {
            int car = s / 3;
            int speed = s % 3;
            for (int n : new int[] {-52, -51, -50, -49, 0, 49, 50, 51, 52}) {
                Due.is("can " + car + ", " + speed + " be " + n, n >= due[s][0] && n <= due[s][1],
                    () -> x.can(car, speed, n));
            }
            for (int n : far) {
                Due.is("can " + car + ", " + speed + " be " + n, false, () -> x.can(car, speed, n));
            }
        }
        for (int n : far) {
            Due.throwing("no SPEED, no number", INDEX, () -> x.can(0, 3, n));
            Due.throwing("no CAR, no number", INDEX, () -> x.can(2, 0, n));
        }
    }

    /** Promise 16 without a WAY, and with TALES that are not asked */
    private static void canWithoutWay() {
        CrashDesk x = Scene.withoutWay();
        for (int s = 0; s < 6; s++) {
            for (int n : new int[] {-50, 0, 50, -51, 51}) {
                int car = s / 3;
                int speed = s % 3;
                Due.is("can without a WAY", false, () -> x.can(car, speed, n));
            }
        }
        Due.throwing("no SPEED without a WAY", INDEX, () -> x.can(0, -1, 0));
        CrashDesk y = Scene.meeting(10, 0);
        y.tale(0, 2, 0, 0);
        Due.is("not as the TALE tells", true, () -> y.can(0, 2, 5));
        Due.is("with the TALE", 0, () -> y.span(0, 2, true, true));
        Due.is("and still without it", true, () -> y.can(0, 2, 5));
    }

    /** Promise 17: "0 SKIDS, 1 that count, 2 TALES, 3 and 4 MASS of CAR 0 and 1" */
    private static void countOfNothingAndOfAll() {
        counts("nothing told", new CrashDesk(), 0, 0, 0, 10, 10);
        CrashDesk x = new CrashDesk();
        fill(x);
        x.mass(0, 1);
        x.mass(1, 100);
        counts("everything full", x, 12, 12, 10, 1, 100);
        x.drop(11, true);
        counts("one dropped", x, 12, 11, 10, 1, 100);
        for (int i = 0; i < 11; i++) {
            x.drop(i, true);
        }
        x.mass(0, 100);
        x.mass(1, 1);
        counts("all dropped", x, 12, 0, 10, 100, 1);
        x.hush();
        counts("hushed", x, 12, 0, 0, 100, 1);
    }

    private static void counts(String what, CrashDesk x, int... due) {
        for (int i = 0; i < due.length; i++) {
            int n = i;
            Due.is(what + ": count(" + n + ")", due[n], () -> x.count(n));
        }
    }

    /** Promise 17: "NONE for another what." */
    private static void countAnotherWhat() {
        CrashDesk x = new CrashDesk();
        CrashDesk full = new CrashDesk();
        fill(full);
        for (int what : new int[] {-1, 5, -2, 6, Scene.LOWEST, Scene.HIGHEST}) {
            Due.is("count(" + what + ")", CrashDesk.NONE, () -> x.count(what));
            Due.is("count(" + what + ") of a full desk", CrashDesk.NONE, () -> full.count(what));
        }
    }

    /** Whatever was asked before, what is told next is heard in the next answer. */
    private static void eachTellingIsHeard() {
        CrashDesk x = Scene.meeting(10, 0);
        Due.is("ways", 6L, x::ways);
        x.mass(0, 30);
        Due.is("after mass", 3L, x::ways);
        x.mass(0, 10);
        Due.is("after mass", 6L, x::ways);
        x.skid(0, true, 51, 51, 9, 9);
        Due.is("after skid", 1L, x::ways);
        x.drop(0, true);
        Due.is("after drop", 6L, x::ways);
        x.drop(0, false);
        Due.is("after drop again", 1L, x::ways);
        x.drop(0, true);
        x.sure(0, 2, 0, 2);
        Due.is("after sure", 3L, x::ways);
        Due.is("wrong", 0, x::wrong);
        x.tale(0, 2, 3, 3);
        Due.is("after tale", 1, x::wrong);
        x.hush();
        Due.is("after hush", 0, x::wrong);
        x.tale(0, 2, 2, 2);
        Due.is("with the TALE", 2, () -> x.span(0, 2, false, true));
        Due.is("without it", 0, () -> x.span(0, 2, false, false));
        Due.is("with it", 2, () -> x.span(0, 2, false, true));
        x.hush();
        x.tale(0, 2, 1, 1);
        Due.is("with the next TALE", 1, () -> x.span(0, 2, false, true));
        Due.is("fit", true, () -> x.fit(1));
        x.skid(1, true, 0, 0, 0, 0);
        Due.is("at odds", 2, x::odds);
        Due.is("odds leaves all as it was", 0L, x::ways);
        Due.is("odds leaves all as it was", false, () -> x.fit(0));
    }

    /** Twelve SKIDS ahead that may take all or nothing, and ten TALES. */
    private static void fill(CrashDesk x) {
        for (int i = 0; i < 12; i++) {
            x.skid(i % 2, false, 0, 2000, 0, 150);
        }
        fillTales(x);
    }

    private static void fillTales(CrashDesk x) {
        for (int i = 0; i < 10; i++) {
            x.tale(0, 2, 20, 50);
        }
    }
}
