/** Promises 15 to 18 and 20 to 24 and the terms that they use: each sentence of the document that names a bound. */
public final class TriesBoundsTest {
    private static final Check C = new Check();
    private static final int LEAST = Integer.MIN_VALUE;
    private static final int MOST = Integer.MAX_VALUE;

    public static void main(String[] args) {
        howFarATry();
        copiesPass9999();
        theDiskStays();
        askedOfRings();
        askedOfNumbers();
        askedOfFamilies();
        askedOfTheStar();
        askedOfNone();
        sureByAllEnds();
        sureOfNone();
        emptyBy();
        emptyOfNone();
        runsBySeeds();
        runsOfLumps();
        runsOfNone();
        toldAtMost();
        toldOfNone();
        forget();
        fits();
        fitsOfNone();
        barred();
        barredOfNone();
        marksOfNone();
        marksHold();
        marksDoNotHold();
        C.end("TriesBoundsTest");
    }

    /** A LUMP comes in RING 1 in that STEP, of the one part that is there. */
    private static RingDisk comesIn(int step) {
        RingDisk x = C.disk(2, "gather 1 when step = " + step + ";");
        x.dust(1, 0, 1);
        return x;
    }

    private static void howFarATry() {
        C.says("A TRY goes n STEPS (0 to 100) on in a copy, by an END");
        RingDisk x = comesIn(99);
        C.due("behind 99", x.asked(0, 99, 2, 1), 0);
        C.due("behind 100", x.asked(0, 100, 2, 1), 1);
        C.due("behind 101", x.asked(0, 101, 2, 1), -1);
        RingDisk now = comesIn(0);
        C.due("behind 0: as it is now", now.asked(0, 0, 2, 1), 0);
        C.due("behind 1", now.asked(0, 1, 2, 1), 1);
        now.steps(1);
        C.due("behind 0, a STEP later", now.asked(0, 0, 2, 1), 1);
        C.due("sure, behind 0", now.sure(0, 2, 1), 2);
        C.due("sure, behind 100", x.sure(100, 2, 1), 2);
        C.due("sure, behind 99", x.sure(99, 2, 1), 0);
    }

    private static RingDisk at9999(String laws) {
        RingDisk x = C.disk(2, laws);
        x.ring(0, 2, 0, 1);
        x.ring(1, 1, 0, 1);
        x.dust(1, 0, 1);
        for (int i = 0; i < 99; i++) {
            x.steps(100);
        }
        C.due("STEP", x.steps(99), 9999);
        return x;
    }

    private static void copiesPass9999() {
        C.says("(in copies STEP may pass 9999)");
        RingDisk x = at9999("gather 1 when step = 10098;");
        C.due("behind 99", x.asked(0, 99, 2, 1), 0);
        C.due("behind 100", x.asked(0, 100, 2, 1), 1);
        C.due("sure", x.sure(100, 2, 1), 2);
        C.law(x, "gather 1 when step = 10058;", 0);
        C.due("runs of 59", x.runs(1, 59, -1), 0);
        C.due("runs of 60", x.runs(1, 60, -1), 1);
        x.told(1, 60);
        x.told(0, 59);
        C.due("fits", x.fits(0), 1);
        C.law(x, "drift 100 when step = 10198;", 0);
        C.due("EMPTY BY", x.empty(1, 0), 10199);
        C.law(x, "drift 100 when step = 10199;", 0);
        C.due("not by then", x.empty(1, 0), -1);
        C.due("the DISK does not", x.steps(1), -1);
        C.due("STEP", x.count(0), 9999);
    }

    private static void theDiskStays() {
        C.says("on in a copy");
        RingDisk x = C.disk(2, "stick 50 to 100 when 1; gather 5 when size = 4; wander 1 when 1; drift 10 when 1;");
        x.ring(0, 9, 0, 1);
        x.ring(1, 8, 0, 1);
        x.star(10, 20, 50);
        x.seed(7);
        x.dust(1, 0, 1000);
        x.dust(1, 4, 5);
        x.steps(1);
        String was = all(x);
        x.mark(0, false);
        x.steps(5);
        String then = all(x);
        x.mark(0, true);
        x.told(3, 100);
        x.asked(1, 100, 0, 1);
        x.sure(100, 4, 5);
        x.empty(1, 1);
        x.runs(40, 60, -1);
        x.fits(1);
        x.barred(0, 1);
        x.back();
        C.due("END", x.count(6), 0);
        C.due("it is as it was", all(x).equals(was), true);
        x.steps(5);
        C.due("and its SEED, too", all(x).equals(then), true);
    }

    private static String all(RingDisk x) {
        StringBuilder text = new StringBuilder();
        for (int i = 0; i < 4; i++) {
            text.append(x.count(i)).append(' ').append(x.parts(i)).append(' ');
        }
        for (int ring = 0; ring < x.count(1); ring++) {
            for (int size = 0; size < 8; size++) {
                text.append(x.has(ring, size)).append(' ');
            }
        }
        for (int lump = 0; lump < x.count(2); lump++) {
            for (int what = 0; what < 10; what++) {
                text.append(x.look(lump, what)).append(' ');
            }
        }
        return text.toString();
    }

    private static void askedOfRings() {
        C.says("what 0: a RING has no dust; 1: a LUMP is THERE in a RING");
        RingDisk x = C.disk(3, "gather 5 when 1; wander 1 when step = 1;");
        x.ring(0, 9, 0, 1);
        x.ring(1, 5, 0, 1);
        x.ring(2, 9, 0, 1);
        x.dust(1, 4, 5);
        x.dust(2, 0, 1);
        int[][] empty = {{1, 0, 0}, {1, 1, 0}, {1, 1, 0}};
        int[][] lump = {{0, 0, 0}, {0, 1, 0}, {1, 0, 0}};
        for (int n = 0; n < 3; n++) {
            for (int ring = 0; ring < 3; ring++) {
                C.due("no dust in " + ring + " behind " + n, x.asked(0, n, 0, ring), empty[n][ring]);
                C.due("a LUMP in " + ring + " behind " + n, x.asked(0, n, 1, ring), lump[n][ring]);
            }
        }
        for (int size = 0; size < 5; size++) {
            RingDisk y = C.disk(2, "");
            C.due("empty", y.asked(0, 0, 0, 1), 1);
            y.dust(1, size, 1);
            C.due("one part of SIZE " + size, y.asked(0, 0, 0, 1), 0);
        }
    }

    private static void askedOfNumbers() {
        C.says("2: so many LUMPS at least are THERE");
        RingDisk x = C.disk(12, "gather 1 when 1;");
        C.due("none is 0 at least", x.asked(0, 0, 2, 0), 1);
        C.due("none is not 1", x.asked(0, 0, 2, 1), 0);
        for (int ring = 0; ring < 12; ring++) {
            x.dust(ring, 0, 1);
            x.dust(ring, 1, 1);
        }
        for (int v : new int[] {0, 1, 11, 12}) {
            C.due("12 is " + v + " at least", x.asked(0, 1, 2, v), 1);
        }
        // 24 came, but 12 are THERE.
        for (int v : new int[] {13, 24, 30, 31, 999999}) {
            C.due("12 is not " + v, x.asked(0, 1, 2, v), 0);
        }
    }

    private static void askedOfFamilies() {
        C.says("3: a LUMP of that FAMILY is THERE");
        RingDisk x = C.disk(3, "gather 1 when ring = 2; feed 100 when 1; wander 1 when 1;");
        for (int ring = 0; ring < 3; ring++) {
            x.ring(ring, 9 - ring, 0, 1);
        }
        x.star(10, 0, 101);
        x.dust(2, 0, 5);
        x.dust(1, 0, 5);
        x.dust(0, 0, 6);
        // It has 5 of RING 2, then as much of RING 1, then more of RING 0, into the STAR in the same STEP.
        int[] family = {-1, 2, 1, -1, -1};
        for (int n = 0; n < family.length; n++) {
            for (int ring = 0; ring < 3; ring++) {
                C.due("FAMILY " + ring + " behind " + n, x.asked(0, n, 3, ring), family[n] == ring ? 1 : 0);
            }
        }
    }

    private static void askedOfTheStar() {
        C.says("4: the STAR took so much or more");
        RingDisk x = C.disk(12, "drift 100 when 1; gather 7 when size = 4; wander 1 when 1;");
        for (int ring = 0; ring < 12; ring++) {
            x.ring(ring, 12 - ring, 0, 1);
            x.dust(ring, 0, 99999);
        }
        x.dust(0, 4, 7);
        x.star(50, 0, 101);
        C.due("0 now", x.asked(0, 0, 4, 0), 1);
        C.due("1 now", x.asked(0, 0, 4, 1), 0);
        // SIZE 4 drifts ahead of GATHER: 99999 and 7 fall in the first STEP.
        C.due("100006", x.asked(0, 1, 4, 100006), 1);
        C.due("100007", x.asked(0, 1, 4, 100007), 0);
        C.due("999999 of 1199995", x.asked(0, 100, 4, 999999), 1);
        C.due("999999 of 999997", x.asked(0, 10, 4, 999999), 0);
        C.due("999997", x.asked(0, 10, 4, 999997), 1);
        C.due("999998", x.asked(0, 10, 4, 999998), 0);
        RingDisk lump = C.disk(2, "gather 7 when 1; wander 1 when step = 1; eat 50 when 1;");
        lump.ring(0, 10, 0, 1);
        lump.star(50, 0, 101);
        lump.dust(0, 0, 7);
        // A LUMP falls with all that it has: 7, and 5 and 2 of the gas.
        C.due("before", lump.asked(0, 1, 4, 1), 0);
        C.due("14", lump.asked(0, 2, 4, 14), 1);
        C.due("15", lump.asked(0, 2, 4, 15), 0);
    }

    private static void askedOfNone() {
        C.says("NONE: other END, n, what, v (RINGS, FAMILIES that are there; numbers 0 to 999999).");
        RingDisk x = C.disk(3, "stick 1 to 2 when 1; stick 1 to 2 when 1;");
        for (int end : new int[] {-1, 4, 5, 16, LEAST, MOST}) {
            for (int what = 0; what < 5; what++) {
                C.due("END " + end, x.asked(end, 1, what, 0), -1);
            }
        }
        for (int n : new int[] {-1, 101, 102, LEAST, MOST}) {
            for (int what = 0; what < 5; what++) {
                C.due("n " + n, x.asked(0, n, what, 0), -1);
            }
        }
        for (int what : new int[] {-1, 5, 6, LEAST, MOST}) {
            C.due("what " + what, x.asked(0, 1, what, 0), -1);
        }
        for (int v : new int[] {-1, 3, 11, 12, LEAST, MOST}) {
            for (int what : new int[] {0, 1, 3}) {
                C.due("what " + what + " of " + v, x.asked(0, 1, what, v), -1);
            }
        }
        for (int v : new int[] {-1, 1000000, LEAST, MOST}) {
            C.due("what 2 of " + v, x.asked(0, 1, 2, v), -1);
            C.due("what 4 of " + v, x.asked(0, 1, 4, v), -1);
        }
        for (int end = 0; end < 4; end++) {
            for (int what = 0; what < 5; what++) {
                int want = what == 0 || what == 2 || what == 4 ? 1 : 0;
                C.due("the least of all", x.asked(end, 0, what, 0), want);
                C.due("the most of all", x.asked(end, 100, what, what % 2 == 0 && what > 0 ? 999999 : 2),
                        what == 0 ? 1 : 0);
            }
        }
    }

    /** Of four OPEN laws; a LUMP comes in RING r by HIGH of the r-th. */
    private static RingDisk byEnds() {
        RingDisk x = C.disk(4, "gather 1 to 2 when ring = 0; gather 1 to 2 when ring = 1; gather 1 to 2 when ring = 2;"
                + "gather 1 to 2 when ring = 3;");
        for (int ring = 0; ring < 4; ring++) {
            x.dust(ring, 0, 1);
        }
        return x;
    }

    private static void sureByAllEnds() {
        C.says("SURE if it is so by all ENDS, MAY if by some.");
        RingDisk x = byEnds();
        int[] want = {2, 1, 1, 1, 1, 0};
        for (int v = 0; v < want.length; v++) {
            C.due(v + " LUMPS", x.sure(1, 2, v), want[v]);
        }
        for (int ring = 0; ring < 4; ring++) {
            C.due("a LUMP in RING " + ring, x.sure(1, 1, ring), 1);
            C.due("no STEP: none", x.sure(0, 1, ring), 0);
            C.due("of that FAMILY", x.sure(1, 3, ring), 1);
            C.due("no dust", x.sure(1, 0, ring), 1);
        }
        for (int end = 0; end < 16; end++) {
            C.due("THERE by END " + end, x.asked(end, 1, 2, 4 - Integer.bitCount(end)), 1);
            C.due("no more by END " + end, x.asked(end, 1, 2, 5 - Integer.bitCount(end)), 0);
        }
        RingDisk fifteen = C.disk(2, "break 0 to 100 when size = 1; break 0 to 100 when size = 2;"
                + "break 0 to 100 when size = 3; break 0 to 100 when size = 4; gather 1 when 0 < size;");
        for (int size = 1; size < 5; size++) {
            fifteen.dust(0, size, 1);
        }
        C.due("by 15 of 16 ENDS", fifteen.sure(1, 2, 1), 1);
        C.due("not by END 15", fifteen.asked(15, 1, 2, 1), 0);
        C.due("by END 14", fifteen.asked(14, 1, 2, 1), 1);
        RingDisk one = C.disk(2, "gather 1 when 1;");
        one.dust(0, 0, 1);
        C.due("no OPEN law: END 0 is all", one.sure(1, 2, 1), 2);
        C.due("no OPEN law: END 0 is all", one.sure(1, 2, 2), 0);
    }

    private static void sureOfNone() {
        C.says("2 SURE, 1 MAY, 0 neither; NONE: as of asked().");
        RingDisk x = byEnds();
        int[][] wrong = {{-1, 0, 0}, {101, 0, 0}, {LEAST, 2, 0}, {MOST, 2, 0}, {1, -1, 0}, {1, 5, 0}, {1, MOST, 0},
            {1, 0, -1}, {1, 0, 4}, {1, 1, -1}, {1, 1, 4}, {1, 3, -1}, {1, 3, 4}, {1, 2, -1}, {1, 2, 1000000},
            {1, 4, -1}, {1, 4, 1000000}, {1, 0, 12}, {1, 2, LEAST}, {1, 4, MOST}};
        for (int[] w : wrong) {
            C.due("sure(" + w[0] + ", " + w[1] + ", " + w[2] + ")", x.sure(w[0], w[1], w[2]), -1);
        }
        C.due("999999 LUMPS", x.sure(100, 2, 999999), 0);
        C.due("999999 FALLEN", x.sure(0, 4, 999999), 0);
    }

    private static void emptyBy() {
        C.says("EMPTY BY of a RING by an END: the first STEP (from now on, at most 200 more) at which it has no dust, "
                + "now too.");
        for (int step : new int[] {0, 1, 99, 100, 198, 199, 200, 201}) {
            RingDisk x = C.disk(2, "drift 100 when step = " + step + ";");
            x.ring(0, 2, 0, 1);
            x.dust(1, 4, 3);
            C.due("by " + (step + 1), x.empty(1, 0), step < 200 ? step + 1 : -1);
            C.due("RING 0 is empty now", x.empty(0, 0), 0);
            x.steps(1);
            C.due("from STEP 1 on", x.empty(1, 0), step == 0 ? 1 : step < 201 ? step + 1 : -1);
        }
        // Of some STEPS at which it has none the first.
        RingDisk again = C.disk(3, "drift 100 when ring = 0 or step = 3;");
        again.ring(0, 1, 0, 1);
        again.ring(1, 2, 0, 1);
        again.ring(2, 1, 0, 1);
        again.dust(0, 0, 1);
        C.due("RING 1 is empty now, not later", again.empty(1, 0), 0);
        again.steps(1);
        C.due("RING 0 is empty now", again.empty(0, 0), 1);
        C.due("RING 1 never", again.empty(1, 0), -1);
        for (int size = 0; size < 5; size++) {
            RingDisk one = C.disk(2, "");
            one.dust(1, size, 1);
            C.due("one part of SIZE " + size, one.empty(1, 0), -1);
        }
    }

    private static void emptyOfNone() {
        C.says("EMPTY BY; NONE: no such RING, END, not by then.");
        RingDisk x = C.disk(3, "drift 50 to 100 when 1;");
        x.ring(1, 5, 0, 1);
        x.dust(2, 0, 8);
        C.due("by LOW one part stays", x.empty(2, 0), -1);
        C.due("by HIGH", x.empty(2, 1), 1);
        C.due("it stays in a TRAP", x.empty(1, 1), 0);
        for (int ring : new int[] {-1, 3, 11, 12, LEAST, MOST}) {
            C.due("RING " + ring, x.empty(ring, 0), -1);
        }
        for (int end : new int[] {-1, 2, 3, 16, LEAST, MOST}) {
            C.due("END " + end, x.empty(0, end), -1);
        }
    }

    private static void runsBySeeds() {
        C.says("for SEEDS 0 to k - 1 (k 1 to 40), each in a copy by the END in force, n STEPS (0 to 60)");
        RingDisk x = C.disk(2, "stick 50 when size = 0 and ring = 0; gather 50 to 51 when size = 1;");
        x.dust(0, 0, 100);
        x.star(0, 20, 101);
        x.seed(12345);
        for (int end = 0; end < 2; end++) {
            x.end(end);
            int sum = 0;
            for (int k = 1; k <= 40; k++) {
                long g = ((k - 1) * 1103515245L + 12345) % 2147483648L;
                sum += 50 + g / 65536 % 41 - 20 >= 50 + end ? 1 : 0;
                C.due("SUM of " + k + " by END " + end, x.runs(k, 1, -1), sum);
                C.due("ODDS of 1", x.runs(k, 1, 1), sum);
                C.due("ODDS of 0", x.runs(k, 1, 0), k - sum);
            }
        }
        RingDisk last = comesIn(59);
        C.due("59 STEPS", last.runs(40, 59, -1), 0);
        C.due("60 STEPS", last.runs(40, 60, -1), 40);
        C.due("0 STEPS", last.runs(40, 0, 0), 40);
        last.steps(60);
        C.due("0 STEPS, one is THERE", last.runs(40, 0, -1), 40);
    }

    private static void runsOfLumps() {
        C.says("SUM of the LUMPS that are THERE, ODDS of m LUMPS: how many of the k");
        RingDisk x = C.disk(12, "gather 1 when 1;");
        for (int ring = 0; ring < 12; ring++) {
            x.dust(ring, 0, 1);
            x.dust(ring, 4, 1);
        }
        C.due("SUM", x.runs(40, 60, -1), 480);
        C.due("SUM of one", x.runs(1, 1, -1), 12);
        for (int m = 0; m <= 30; m++) {
            C.due("ODDS of " + m, x.runs(3, 1, m), m == 12 ? 3 : 0);
        }
    }

    private static void runsOfNone() {
        C.says("RUNS, m NONE: SUM; else ODDS of m LUMPS (0 to 30); NONE: other numbers.");
        RingDisk x = C.disk(2, "");
        for (int k : new int[] {0, -1, 41, 42, LEAST, MOST}) {
            C.due("k " + k, x.runs(k, 1, -1), -1);
            C.due("k " + k, x.runs(k, 1, 0), -1);
        }
        for (int n : new int[] {-1, 61, 62, LEAST, MOST}) {
            C.due("n " + n, x.runs(1, n, -1), -1);
            C.due("n " + n, x.runs(1, n, 0), -1);
        }
        for (int m : new int[] {-2, 31, 32, LEAST, MOST}) {
            C.due("m " + m, x.runs(1, 1, m), -1);
        }
        C.due("the least", x.runs(1, 0, -1), 0);
        C.due("the most", x.runs(40, 60, 30), 0);
        C.due("none in each", x.runs(40, 60, 0), 40);
    }

    private static void toldAtMost() {
        C.says("TOLD COUNTS, 10 at most: so many LUMPS are THERE in so many STEPS from now.");
        RingDisk x = comesIn(99);
        for (int i = 0; i < 10; i++) {
            C.due("its number", x.told(i == 9 ? 1 : 0, i == 9 ? 100 : i == 8 ? 99 : 11 * i), i);
            C.due("how many", x.count(8), i + 1);
        }
        C.due("an 11th", x.told(0, 0), -1);
        C.due("an 11th", x.told(30, 100), -1);
        C.due("10", x.count(8), 10);
        C.due("all ten are so", x.fits(0), 1);
        x.steps(1);
        C.due("from now: there is one in 99 STEPS more", x.fits(0), 0);
        C.due("forget()", x.forget(), 10);
        x.told(1, 99);
        x.told(0, 98);
        C.due("told anew", x.fits(0), 1);
        C.due("10 again", fill(x), 10);
        C.due("an 11th again", x.told(0, 0), -1);
    }

    private static int fill(RingDisk x) {
        for (int i = x.count(8); i < 10; i++) {
            C.due("told", x.told(0, 0), i);
        }
        return x.count(8);
    }

    private static void toldOfNone() {
        C.says("A TOLD COUNT: its number; NONE: LUMPS not 0 to 30, STEPS not 0 to 100, 10 are told.");
        RingDisk x = new RingDisk();
        for (int lumps : new int[] {-1, 31, 32, LEAST, MOST}) {
            C.due("LUMPS " + lumps, x.told(lumps, 0), -1);
        }
        for (int steps : new int[] {-1, 101, 102, LEAST, MOST}) {
            C.due("STEPS " + steps, x.told(0, steps), -1);
        }
        C.due("none of them is told", x.count(8), 0);
        C.due("and all ENDS FIT", x.fits(0), 1);
        C.due("the least", x.told(0, 0), 0);
        C.due("the most", x.told(30, 100), 1);
        C.due("the others", x.told(30, 0) * 10 + x.told(0, 100), 23);
    }

    private static void forget() {
        C.says("TOLD COUNTS are forgotten: how many there were.");
        RingDisk x = new RingDisk();
        C.due("none", x.forget(), 0);
        for (int n = 1; n <= 10; n++) {
            for (int i = 0; i < n; i++) {
                x.told(9, 0);
            }
            C.due("none is so", x.fits(0), 0);
            C.due(n + " were", x.forget(), n);
            C.due("none is left", x.count(8), 0);
            C.due("what is forgotten bars nothing", x.fits(0), 1);
            C.due("none are left", x.forget(), 0);
        }
    }

    private static void fits() {
        C.says("FIT is an END by which all of them are so");
        RingDisk x = byEnds();
        for (int end = 0; end < 16; end++) {
            C.due("none are told", x.fits(end), 1);
        }
        for (int n = 0; n <= 5; n++) {
            x.forget();
            x.told(n, 1);
            for (int end = 0; end < 16; end++) {
                C.due(n + " told, END " + end, x.fits(end), 4 - Integer.bitCount(end) == n ? 1 : 0);
            }
        }
        x.forget();
        x.told(4, 1);
        x.told(4, 100);
        x.told(0, 0);
        C.due("all three", x.fits(0), 1);
        x.told(3, 100);
        C.due("the last one is not so", x.fits(0), 0);
    }

    private static void fitsOfNone() {
        C.says("Whether an END FITS: 1 or 0; NONE: no such END.");
        RingDisk x = byEnds();
        for (int end : new int[] {-1, 16, 17, 32, LEAST, MOST}) {
            C.due("fits(" + end + ")", x.fits(end), -1);
        }
        C.due("fits(15)", x.fits(15), 1);
        RingDisk none = new RingDisk();
        C.due("without OPEN laws END 0 alone", none.fits(0) * 10 + none.fits(1), 9);
    }

    private static void barred() {
        C.says("an OPEN law's side (LOW or HIGH) is BARRED if no END with it FITS");
        RingDisk x = byEnds();
        for (int n = 0; n <= 5; n++) {
            x.forget();
            x.told(n, 1);
            for (int i = 0; i < 4; i++) {
                C.due(n + " told: LOW of " + i, x.barred(i, 0), n == 0 || n == 5 ? 1 : 0);
                C.due(n + " told: HIGH of " + i, x.barred(i, 1), n >= 4 ? 1 : 0);
            }
        }
        x.forget();
        for (int i = 0; i < 4; i++) {
            C.due("none is told", x.barred(i, 0) + x.barred(i, 1), 0);
        }
        // RINGS 0 and 3 alone: of which laws the sides are barred tells their order.
        RingDisk y = C.disk(4, "gather 1 when ring = 2; gather 1 to 2 when ring = 0; gather 1 to 2 when ring = 3;");
        y.dust(3, 0, 1);
        y.told(1, 1);
        C.due("the first law's sides", y.barred(0, 0) * 10 + y.barred(0, 1), 0);
        C.due("the second law's sides", y.barred(1, 0) * 10 + y.barred(1, 1), 1);
    }

    private static void barredOfNone() {
        C.says("Whether a side (0 LOW, 1 HIGH) of the i-th OPEN law is BARRED: 1 or 0; NONE: none such.");
        for (int open = 0; open <= 4; open++) {
            RingDisk x = C.disk(2, "gap 3 when 1;" + "gap 1 to 2 when 1;".repeat(open));
            for (int i : new int[] {-1, open, open + 1, 4, 31, 32, LEAST, MOST}) {
                C.due("barred(" + i + ", 0) of " + open, x.barred(i, 0), -1);
                C.due("barred(" + i + ", 1) of " + open, x.barred(i, 1), -1);
            }
            for (int i = 0; i < open; i++) {
                for (int side : new int[] {-1, 2, 3, LEAST, MOST}) {
                    C.due("barred(" + i + ", " + side + ")", x.barred(i, side), -1);
                }
                C.due("barred(" + i + ")", x.barred(i, 0) + x.barred(i, 1), 0);
            }
        }
    }

    private static void marksOfNone() {
        C.says("false: none such, nothing is on it (goes)");
        RingDisk x = C.disk(3, "");
        x.dust(1, 1, 7);
        for (int mark : new int[] {-1, 6, 7, LEAST, MOST}) {
            C.due("mark(" + mark + ", false)", x.mark(mark, false), false);
            C.due("mark(" + mark + ", true)", x.mark(mark, true), false);
        }
        for (int mark = 0; mark < 6; mark++) {
            C.due("nothing is on " + mark, x.mark(mark, true), false);
            C.due("all stays", x.count(1) * 10 + x.has(1, 1), 37);
        }
        for (int mark = 0; mark < 6; mark++) {
            x.dust(1, 1, mark);
            C.due("to " + mark, x.mark(mark, false), true);
            C.due("nothing is on the next", x.mark(mark + 1, true), false);
        }
        for (int mark = 5; mark >= 0; mark--) {
            C.due("from " + mark, x.mark(mark, true), true);
            C.due("each its own", x.has(1, 1), mark);
        }
        x.dust(1, 1, 70);
        C.due("over it", x.mark(3, false), true);
        x.dust(1, 1, 80);
        C.due("the last that was put there", x.mark(3, true) ? x.has(1, 1) : -1, 70);
    }

    private static void marksHold() {
        C.says("MARKS 0 to 5 hold copies of the DISK (with STEP, PULL, SEED as it is then, LUMPS;");
        RingDisk x = C.disk(3, "gather 5 when size = 4; wander 4 when 1; stick 50 when 1; drift 30 when warm = 3;");
        x.ring(0, 10, 3, 7);
        x.ring(1, 9, 3, 7);
        x.ring(2, 8, 3, 7);
        x.star(11, 20, 101);
        x.seed(2147483647);
        x.dust(2, 4, 5);
        x.dust(2, 0, 1000);
        x.steps(2);
        x.mark(0, false);
        String was = all(x);
        x.steps(4);
        String then = all(x);
        x.mark(1, false);
        x.star(0, 20, 101);
        x.seed(1);
        x.mark(0, true);
        C.due("STEP", x.count(0), 2);
        C.due("it is as it was", all(x).equals(was), true);
        x.steps(4);
        C.due("by the same PULL and SEED", all(x).equals(then), true);
        x.mark(0, true);
        x.mark(1, true);
        C.due("from one to another", all(x).equals(then), true);
        RingDisk rings = C.disk(12, "");
        rings.mark(2, false);
        rings.rings(2);
        rings.mark(2, true);
        C.due("RINGS", rings.count(1), 12);
        C.due("STEP 0: they may be told", rings.rings(5) && rings.ring(4, 1, 1, 1), true);
    }

    private static void marksDoNotHold() {
        C.says("not LAWS, END, LUCK, THROW, TOLD COUNTS), none at first");
        RingDisk x = C.disk(2, "stick 40 to 60 when size = 0; gather 1 when ring = 1;");
        x.dust(0, 0, 100);
        x.dust(1, 4, 5);
        x.dust(1, 3, 5);
        x.mark(0, false);
        C.due("END 1", x.end(1), true);
        x.told(1, 1);
        Check.put(x, "gap");
        x.star(0, 10, 100);
        x.mark(0, true);
        C.due("END", x.count(6), 1);
        C.due("TOLD COUNTS", x.count(8), 1);
        C.due("signs on the TAPE", x.count(7), 3);
        x.steps(1);
        // HIGH is 60, and LUCK 10 with SEED 0 makes it 50; one as heavy is THROWN.
        C.due("END and LUCK", x.has(0, 1), 50);
        C.due("THROW", x.look(1, 0), 3);
        x.laws();
        C.law(x, "break 100 when 1; seen 1 when 1;", 0);
        x.mark(0, true);
        C.due("LAWS", x.count(4), 2);
        C.due("OPEN ones", x.count(5), 0);
        x.steps(1);
        C.due("they go by the LAWS in force", x.has(1, 0), 10);
    }
}
