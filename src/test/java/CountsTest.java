/** Promises 20 to 25: told counts, which ends fit, barred sides, marks, counts. */
public final class CountsTest {
    private static final Check C = new Check();

    public static void main(String[] args) {
        told();
        fits();
        barred();
        marks();
        marksAndRings();
        marksAndLumps();
        count();
        C.end("CountsTest");
    }

    private static void told() {
        RingDisk x = new RingDisk();
        C.due("lumps -1", x.told(-1, 0), -1);
        C.due("lumps 31", x.told(31, 0), -1);
        C.due("steps -1", x.told(0, -1), -1);
        C.due("steps 101", x.told(0, 101), -1);
        C.due("none is told", x.count(8), 0);
        for (int i = 0; i < 10; i++) {
            C.due("told " + i, x.told(i * 3, i * 11), i);
            C.due("count(8)", x.count(8), i + 1);
        }
        C.due("10 are told", x.told(0, 0), -1);
        C.due("3 in 11 steps are not so", x.fits(0), 0);
        x.forget();
        for (int i = 0; i < 10; i++) {
            x.told(0, i * 11);
        }
        C.due("none in 0 to 99 steps", x.fits(0), 1);
        C.due("forget()", x.forget(), 10);
        C.due("count(8)", x.count(8), 0);
        C.due("forget()", x.forget(), 0);
        C.due("from 0 again", x.told(30, 100), 0);
    }

    /** A lump comes in STEP 1 by LOW, and two by HIGH; by HIGH of the second law they fall a step later. */
    private static RingDisk disk() {
        RingDisk x = C.disk(4, "drift 0 to 100 when ring = 3; gather 50 when size = 0; wander 1 to 2 when step < 3;");
        C.gas(x, 9, 8, 9, 8);
        x.star(10, 0, 101);
        x.dust(0, 0, 50);
        x.dust(3, 0, 30);
        x.dust(2, 0, 20);
        return x;
    }

    private static void fits() {
        RingDisk x = disk();
        for (int e = 0; e < 4; e++) {
            C.due("nothing is told", x.fits(e), 1);
        }
        C.due("no END", x.fits(4), -1);
        C.due("no END", x.fits(-1), -1);
        x.told(0, 0);
        C.due("none now", x.fits(0), 1);
        // Behind a step: END 0: lump 0 came and fell. 1: another one in ring 2. 2: lump 0 is there. 3: both.
        int[] there = {0, 1, 1, 2};
        for (int e = 0; e < 4; e++) {
            for (int n = 0; n < 4; n++) {
                x.forget();
                x.told(n, 1);
                C.due("fits(" + e + ") with " + n + " told", x.fits(e), there[e] == n ? 1 : 0);
            }
        }
        x.forget();
        x.told(2, 1);
        x.told(1, 2);
        C.due("both counts are so", x.fits(3), 1);
        x.told(2, 2);
        C.due("not all of them", x.fits(3), 0);
        C.due("the disk has not gone on", x.count(0), 0);
        x.forget();
        x.told(2, 100);
        x.told(1, 0);
        C.due("the first one that is told is not so", x.fits(3), 0);
        x.forget();
        x.told(1, 0);
        x.told(2, 1);
        C.due("a count of now is looked at, too", x.fits(3), 0);
        x.forget();
        x.told(1, 1);
        x.end(3);
        x.steps(1);
        // From now: END 3 has 2 lumps there, and behind one step more one of them fell.
        C.due("from now on", x.fits(3), 1);
    }

    private static void barred() {
        RingDisk x = disk();
        for (int i = 0; i < 2; i++) {
            C.due("nothing is told", x.barred(i, 0) + x.barred(i, 1), 0);
        }
        int[][] wrong = {{-1, 0}, {2, 0}, {0, -1}, {0, 2}, {4, 0}, {Integer.MAX_VALUE, 0}, {Integer.MIN_VALUE, 1}};
        for (int[] w : wrong) {
            C.due("barred(" + w[0] + ", " + w[1] + ")", x.barred(w[0], w[1]), -1);
        }
        int[][] of = {{0, 0, 1, 0, 1}, {1, 0, 0, 0, 0}, {2, 1, 0, 1, 0}, {3, 1, 1, 1, 1}};
        for (int[] w : of) {
            x.forget();
            x.told(w[0], 1);
            for (int i = 0; i < 4; i++) {
                C.due("barred(" + i / 2 + ", " + i % 2 + ") with " + w[0], x.barred(i / 2, i % 2), w[i + 1]);
            }
        }
        C.due("the END stays", x.count(6), 0);
        RingDisk none = C.disk(2, "stick 1 when 1;");
        C.due("no OPEN law", none.barred(0, 0), -1);
    }

    private static void marks() {
        RingDisk x = C.disk(3, "gather 10 when 1; stick 50 when size = 0; wander 2 when 1; drift 10 to 20 when 1;");
        C.gas(x, 30, 20, 10);
        x.star(40, 5, 60);
        x.seed(3);
        x.dust(2, 2, 10);
        x.dust(1, 0, 9);
        C.due("mark(-1)", x.mark(-1, false), false);
        C.due("mark(6)", x.mark(6, false), false);
        C.due("mark(-1)", x.mark(-1, true), false);
        C.due("mark(6)", x.mark(6, true), false);
        for (int i = 0; i < 6; i++) {
            C.due("nothing is on it", x.mark(i, true), false);
        }
        C.due("STEP 0", x.mark(0, false), true);
        x.steps(1);
        C.due("STEP 1", x.mark(5, false), true);
        String one = told(x);
        x.told(1, 1);
        x.steps(3);
        String four = told(x);
        C.due("they differ", one.equals(four), false);
        x.end(1);
        C.due("back to 1", x.mark(5, true), true);
        C.due("as it was", told(x).equals(one), true);
        C.due("the END is not held", x.count(6), 1);
        C.due("nor told counts", x.count(8), 1);
        x.end(0);
        x.steps(3);
        C.due("with its SEED, PULL and COUNTS", told(x).equals(four), true);
        C.due("a mark can be used again", x.mark(5, true), true);
        C.due("as it was", told(x).equals(one), true);
        C.law(x, "gap 1 when 1;", 0);
        x.star(7, 0, 101);
        C.due("LAWS are not held", x.mark(0, true) && x.count(4) == 1, true);
        C.due("STEP 0 again", x.count(0), 0);
        C.due("no lumps", x.count(2), 0);
        C.due("dust may be told again", x.dust(0, 0, 1), true);
        C.due("the mark has not changed", x.mark(0, true) && x.has(0, 0) == 0, true);
        x.steps(9);
        C.due("over another one", x.mark(0, false), true);
        x.mark(5, true);
        C.due("STEP 1", x.count(0), 1);
        x.mark(0, true);
        C.due("STEP 9", x.count(0), 9);
        luckStays();
        birthIsHeld();
    }

    private static void birthIsHeld() {
        RingDisk x = C.disk(2, "gather 1 when step = 1;");
        x.dust(0, 0, 5);
        x.mark(0, false);
        x.steps(2);
        x.mark(1, false);
        x.mark(0, true);
        C.law(x, "gather 1 when 1;", 0);
        x.steps(1);
        C.due("it came in STEP 0", x.look(0, 8), 0);
        C.due("it has nothing of the one before", x.made(0, 0), 5);
        x.mark(1, true);
        C.due("it came in STEP 1", x.look(0, 8), 1);
    }

    /** LUCK and THROW are not held: with LUCK 0 nothing is drawn behind the mark. */
    private static void luckStays() {
        RingDisk x = C.disk(2, "stick 50 when size = 0; gather 1 when size = 4;");
        x.dust(0, 0, 100);
        x.star(9, 20, 1);
        x.seed(1);
        x.mark(2, false);
        x.star(0, 0, 101);
        x.seed(5);
        x.mark(2, true);
        C.due("PULL is held", x.has(0, 7), 0);
        x.steps(1);
        C.dustOf(x, 0, 50, 50, 0, 0, 0);
        x.star(9, 10, 1);
        x.mark(2, true);
        x.steps(1);
        C.dustOf(x, 0, 43, 57, 0, 0, 0);
    }

    private static void marksAndRings() {
        RingDisk x = C.disk(2, "");
        x.dust(1, 0, 8);
        x.ring(1, 3, 4, 5);
        x.mark(3, false);
        x.rings(7);
        x.mark(4, false);
        x.mark(3, true);
        C.due("2 rings", x.count(1), 2);
        C.due("dust", x.has(1, 0), 8);
        C.due("gas", x.has(1, 5), 3);
        x.mark(4, true);
        C.due("7 rings", x.count(1), 7);
        C.due("no dust", x.parts(0), 0);
    }

    /** A mark holds every part of every lump, and those that come again are not mixed with those that were. */
    private static void marksAndLumps() {
        RingDisk x = C.disk(12, "gather 10 when step < 3; eat 10 when 1; wander 2 when 1; feed 30 when 1;"
                + "drift 20 when warm < 6;");
        for (int r = 0; r < 12; r++) {
            x.ring(r, 100 + 40 * (r * 5 % 12), r, 50 + r * r % 7 * 50);
            for (int z = 0; z < 5; z++) {
                x.dust(r, z, 3 * r + 2 * z + 1);
            }
        }
        x.star(1000, 0, 60);
        x.mark(0, false);
        x.steps(2);
        x.mark(1, false);
        String two = told(x);
        x.steps(4);
        String six = told(x);
        x.mark(2, false);
        C.due("some were eaten, some fell, some were thrown", x.count(2) > x.count(3) && x.parts(2) > 0
                && x.parts(3) > 0, true);
        x.mark(1, true);
        C.due("as it was at 2", told(x).equals(two), true);
        x.steps(4);
        C.due("as it was at 6", told(x).equals(six), true);
        x.mark(0, true);
        x.steps(6);
        C.due("all lumps come anew", told(x).equals(six), true);
        x.mark(0, true);
        x.mark(2, true);
        C.due("from STEP 0 to 6", told(x).equals(six), true);
        C.law(x, "", 0);
        x.steps(1);
        C.law(x, "gather 1 when 1;", 0);
        x.mark(0, true);
        x.steps(1);
        // Of 9, 7, 5, 3, 1 the 7 are thrown, the others eaten.
        C.due("nothing of who was there before", x.made(0, 0), 18);
        C.due("it is of ring 0 alone", x.look(0, 2), 18);
        x.mark(0, true);
        C.law(x, "gather 10 when step < 3; eat 10 when 1; wander 2 when 1; feed 30 when 1;"
                + "drift 20 when warm < 6;", 0);
        x.rings(12);
        x.mark(1, true);
        C.due("from new rings to 2", told(x).equals(two), true);
        x.steps(4);
        C.due("with warm, periods and gas", told(x).equals(six), true);
    }

    private static String told(RingDisk x) {
        StringBuilder all = new StringBuilder();
        for (int i : new int[] {0, 1, 2, 3, 9, 10}) {
            all.append(x.count(i)).append(' ');
        }
        for (int i = 0; i < 5; i++) {
            all.append(x.parts(i)).append(' ');
        }
        for (int r = 0; r < x.count(1); r++) {
            for (int z = 0; z < 8; z++) {
                all.append(x.has(r, z)).append(' ');
            }
        }
        for (int i = 0; i < x.count(2); i++) {
            for (int w = 0; w < 10; w++) {
                all.append(x.look(i, w)).append(' ');
            }
            for (int r = 0; r < x.count(1); r++) {
                all.append(x.made(i, r)).append(' ');
            }
        }
        return all.toString();
    }

    private static void count() {
        RingDisk x = C.disk(4, "gather 5 when 1; gap 1 to 2 when 1; seen 0 to 1 when 1; wander 1 when ring = 0;");
        C.gas(x, 1, 2, 2, 5);
        x.star(3, 0, 101);
        x.dust(0, 0, 5);
        x.dust(1, 0, 5);
        x.dust(1, 1, 5);
        x.dust(3, 3, 5);
        x.end(2);
        x.steps(2);
        x.told(1, 1);
        Check.put(x, "gap");
        int[] want = {2, 4, 4, 2, 4, 2, 2, 3, 1, 2, 2};
        for (int i = 0; i < want.length; i++) {
            C.due("count(" + i + ")", x.count(i), want[i]);
        }
        for (int what : new int[] {-1, 11, 12, Integer.MAX_VALUE, Integer.MIN_VALUE}) {
            C.due("count(" + what + ")", x.count(what), -1);
        }
    }
}
