import java.util.NoSuchElementException;

/** Promises 1 to 7 and 11, and the terms that they use: each sentence of the document that names a bound. */
public final class TellingBoundsTest {
    private static final Check C = new Check();
    private static final int LEAST = Integer.MIN_VALUE;
    private static final int MOST = Integer.MAX_VALUE;

    public static void main(String[] args) {
        howManyRings();
        gasOfARing();
        warmOfARing();
        periodOfARing();
        dustOfASize();
        zeroAtFirst();
        pullOfTheStar();
        outsideTheLast();
        stepAtFirst();
        thirtyLumps();
        noneComeBehindTheGone();
        ofEqualOnes();
        traps();
        newObject();
        ringsAsAtFirst();
        ringsRefused();
        ringRefused();
        dustRefused();
        starRefused();
        seedBounds();
        signsOfTheTape();
        upTo24();
        beyond1000();
        hasBounds();
        calls512();
        C.end("TellingBoundsTest");
    }

    private static boolean isThere(RingDisk x, int ring, int size) {
        try {
            x.has(ring, size);
            return true;
        } catch (NoSuchElementException e) {
            return false;
        }
    }

    private static void rings(RingDisk x, int n, boolean want, int then) {
        C.due("rings(" + n + ")", x.rings(n), want);
        C.due("count(1)", x.count(1), then);
        C.due("the last RING", isThere(x, then - 1, 0), true);
        C.due("one more", isThere(x, then, 0), false);
    }

    private static void howManyRings() {
        C.says("n is 12 at first; 2 to 12, told while STEP is 0");
        RingDisk x = new RingDisk();
        C.due("at first", x.count(1), 12);
        C.due("the last at first", isThere(x, 11, 0), true);
        C.due("no more at first", isThere(x, 12, 0), false);
        rings(x, 1, false, 12);
        rings(x, 2, true, 2);
        rings(x, 13, false, 2);
        rings(x, 12, true, 12);
        x.mark(0, false);
        x.steps(1);
        rings(x, 2, false, 12);
        x.mark(0, true);
        rings(x, 2, true, 2);
        for (int n = 2; n <= 12; n++) {
            rings(x, n, true, n);
        }
    }

    private static void gasOfARing() {
        C.says("Each has gas (0 to 99999)");
        RingDisk x = new RingDisk();
        int[][] told = {{99999, 1}, {100000, 0}, {0, 1}, {-1, 0}, {MOST, 0}, {LEAST, 0}, {1, 1}};
        int is = 0;
        for (int[] t : told) {
            C.due("gas " + t[0], x.ring(11, t[0], 0, 1), t[1] == 1);
            is = t[1] == 1 ? t[0] : is;
            C.due("gas is", x.has(11, 5), is);
        }
    }

    /** A lump comes of the one part in RING 1 just if its WARM is asked for. */
    private static void warmIs(RingDisk x, int warm) {
        C.law(x, "gather 1 when ring = 1 and warm = " + warm + ";", 0);
        x.dust(1, 0, 1);
        C.due("WARM is " + warm, x.asked(0, 1, 2, 1), 1);
    }

    private static void warmOfARing() {
        C.says("WARM (0 to 999)");
        RingDisk x = new RingDisk();
        warmIs(x, 0);
        C.due("999", x.ring(1, 0, 999, 1), true);
        warmIs(x, 999);
        C.due("1000", x.ring(1, 0, 1000, 1), false);
        warmIs(x, 999);
        C.due("0", x.ring(1, 0, 0, 1), true);
        warmIs(x, 0);
        C.due("-1", x.ring(1, 0, -1, 1), false);
        warmIs(x, 0);
        C.due("1", x.ring(1, 0, 1, 1), true);
        warmIs(x, 1);
    }

    /** With lumps in RINGS 0 and 1. */
    private static void lockedIs(RingDisk x, int want) {
        x.mark(0, false);
        x.dust(0, 0, 1);
        x.dust(1, 0, 1);
        x.steps(1);
        C.due("RING 1 is locked to RING 0", x.look(1, 5), want);
        x.mark(0, true);
    }

    private static void periodOfARing() {
        C.says("a PERIOD (1 to 9999; 100 * (RING + 1) at first)");
        RingDisk x = C.disk(2, "gather 1 when 1;");
        lockedIs(x, 1);
        C.due("5000 of RING 0", x.ring(0, 0, 0, 5000), true);
        C.due("10000 of RING 1", x.ring(1, 0, 0, 10000), false);
        lockedIs(x, 0);
        C.due("100 of RING 0", x.ring(0, 0, 0, 100), true);
        lockedIs(x, 1);
        C.due("0 of RING 1", x.ring(1, 0, 0, 0), false);
        C.due("-1 of RING 1", x.ring(1, 0, 0, -1), false);
        lockedIs(x, 1);
        C.due("1 of RING 0", x.ring(0, 0, 0, 1), true);
        lockedIs(x, 0);
        C.due("2 of RING 1", x.ring(1, 0, 0, 2), true);
        lockedIs(x, 1);
        C.due("9999 of RING 1", x.ring(1, 0, 0, 9999), true);
        lockedIs(x, 0);
        C.due("6666 of RING 0", x.ring(0, 0, 0, 6666), true);
        lockedIs(x, 1);
        periodsAtFirst();
    }

    /** The PERIOD of a RING at first is found by an inner one that is told a half of it. */
    private static void periodsAtFirst() {
        for (int ring = 1; ring < 12; ring++) {
            RingDisk x = C.disk(12, "gather 1 when 1;");
            x.dust(0, 0, 1);
            x.dust(ring, 0, 1);
            x.mark(0, false);
            C.due("a half", x.ring(0, 0, 0, 50 * (ring + 1)), true);
            x.steps(1);
            C.due("a half of RING " + ring, x.look(1, 5), 1);
            x.mark(0, true);
            C.due("a half and 1", x.ring(0, 0, 0, 50 * (ring + 1) + 1), true);
            x.steps(1);
            C.due("more than a half of RING " + ring, x.look(1, 5), 0);
        }
        RingDisk inner = C.disk(2, "gather 1 when 1;");
        inner.ring(1, 0, 0, 200);
        lockedIs(inner, 1);
        inner.ring(1, 0, 0, 150);
        lockedIs(inner, 1);
        inner.ring(1, 0, 0, 151);
        lockedIs(inner, 0);
    }

    private static void dustOfASize() {
        C.says("dust of SIZES 0 to 4 (0 to 99999 of each may be told)");
        RingDisk x = new RingDisk();
        for (int ring = 0; ring < 12; ring++) {
            for (int size = 0; size < 5; size++) {
                C.due("99999 of each", x.dust(ring, size, 99999), true);
            }
            C.dustOf(x, ring, 99999, 99999, 99999, 99999, 99999, 0, 499995);
        }
        C.due("all of it", x.parts(4), 5999940);
        C.due("SIZE -1", x.dust(0, -1, 5), false);
        C.due("SIZE 5", x.dust(0, 5, 5), false);
        C.due("100000", x.dust(0, 0, 100000), false);
        C.due("-1", x.dust(0, 4, -1), false);
        C.due("nothing has changed", x.parts(4), 5999940);
        C.due("0 again", x.dust(0, 4, 0), true);
        C.due("in the place of what was told", x.dust(0, 3, 7), true);
        C.dustOf(x, 0, 99999, 99999, 99999, 7, 0, 0, 300004);
    }

    private static void zeroAtFirst() {
        C.says("all else is 0 at first");
        RingDisk x = new RingDisk();
        for (int ring = 0; ring < 12; ring++) {
            C.dustOf(x, ring, 0, 0, 0, 0, 0, 0, 0, 1);
        }
        C.law(x, "gather 1 when warm;", 0);
        for (int ring = 0; ring < 12; ring++) {
            x.dust(ring, 0, 1);
        }
        C.due("no RING is warm", x.asked(0, 1, 2, 0) == 1 && x.asked(0, 1, 2, 1) == 0, true);
        C.says("With LUCK (0 to 20; 0 at first)");
        RingDisk luck = C.disk(2, "stick 50 when 1;");
        luck.dust(0, 0, 100);
        luck.steps(1);
        C.dustOf(luck, 0, 50, 50, 0, 0, 0);
        C.says("g is SEED (0 at first)");
        RingDisk seed = C.disk(2, "stick 50 when size = 0;");
        seed.dust(0, 0, 100);
        seed.star(0, 10, 101);
        seed.steps(1);
        // g is 12345 then and x 0, so N is 50 - 10.
        C.dustOf(seed, 0, 60, 40, 0, 0, 0);
        C.says("THROW (1 to 101; 101 at first: never)");
        RingDisk share = C.disk(2, "gather 1 when 1;");
        share.dust(0, 0, 5);
        share.dust(0, 1, 5);
        share.steps(1);
        C.due("one as heavy is EATEN", share.look(1, 0), 1);
    }

    private static void pull(RingDisk x, int pull, int gas, int trap) {
        C.due("PULL " + pull, x.star(pull, 0, 101), true);
        C.due("gas " + gas, x.ring(0, gas, 0, 1), true);
        C.due("RING 0 is a TRAP", x.has(0, 7), trap);
    }

    private static void pullOfTheStar() {
        C.says("the STAR with a PULL (0 to 99999; 0 at first) that stands for its gas");
        RingDisk x = C.disk(2, "drift 100 when 1;");
        C.due("0 at first", x.has(0, 7), 1);
        pull(x, 1, 0, 0);
        pull(x, 0, 0, 1);
        pull(x, 99999, 99999, 1);
        pull(x, 99999, 99998, 0);
        pull(x, 99998, 99999, 1);
        C.due("PULL 100000", x.star(100000, 0, 101), false);
        C.due("PULL -1", x.star(-1, 0, 101), false);
        C.due("it is 99998 as before", x.ring(0, 99998, 0, 1) && x.has(0, 7) == 1, true);
        C.due("it is 99998 as before", x.ring(0, 99997, 0, 1) && x.has(0, 7) == 0, true);
        C.due("it pulls RING 0 alone", x.has(1, 7), 0);
        x.dust(0, 0, 9);
        x.steps(1);
        C.due("FALLEN", x.parts(2), 9);
        C.due("a PULL is no part of the disk", x.parts(4), 99997 + 9);
    }

    private static void outsideTheLast() {
        C.says("outside the last RING is nothing (gas 0)");
        RingDisk x = C.disk(3, "drift 100 when 1; gather 5 when size = 4; wander 1 when 1;");
        C.due("gas of RING 2", x.ring(2, 500, 0, 1), true);
        C.due("RING 1 goes out", x.has(1, 7), 0);
        C.due("the last RING stays with gas", x.has(2, 7), 1);
        C.due("rings(2)", x.rings(2), true);
        C.due("RING 1 is the last: without gas it stays", x.has(1, 7), 1);
        x.dust(1, 0, 9);
        x.dust(1, 4, 5);
        x.steps(5);
        C.due("dust", x.has(1, 0), 9);
        C.due("the lump", x.look(0, 0) * 100 + x.look(0, 1), 1);
        C.due("nothing is lost", x.parts(0) + x.parts(1), 14);
        RingDisk most = new RingDisk();
        C.due("RING 11 of 12", most.has(11, 7), 1);
        most.ring(10, 1, 0, 1);
        C.due("goes in", most.has(11, 7), 0);
    }

    private static void stepAtFirst() {
        C.says("STEP is 0 at first.");
        C.due("count(0)", new RingDisk().count(0), 0);
    }

    /** So many lumps of one part each, five a RING from RING 0 on. */
    private static RingDisk parts(int n, String laws) {
        RingDisk x = C.disk(8, laws);
        for (int i = 0; i < n; i++) {
            C.due("one part", x.dust(i / 5, 4 - i % 5, 1), true);
        }
        return x;
    }

    private static void thirtyLumps() {
        C.says("LUMPS are numbered as they come, 30 at most at one time or gone (no more come then).");
        for (int n = 28; n <= 32; n++) {
            RingDisk x = parts(n, "gather 1 when 1;");
            x.steps(1);
            int came = Math.min(n, 30);
            C.due(n + ": LUMPS", x.count(2), came);
            C.due(n + ": THERE", x.count(3), 6);
            C.due(n + ": the last one", x.look(came - 1, 1), 5);
            C.due(n + ": no more", x.look(came, 0), -1);
            C.due(n + ": what did not gather stays dust", x.has(6, 6), n - came);
            x.steps(3);
            C.due(n + ": later, too", x.count(2), came);
            for (int i = 0; i < came; i++) {
                C.due("numbered as they come", x.look(i, 1), i / 5);
            }
        }
    }

    private static void noneComeBehindTheGone() {
        C.says("30 at most at one time or gone (no more come then)");
        RingDisk x = parts(31, "gather 1 when 1; wander 1 when 1;");
        for (int ring = 0; ring < 8; ring++) {
            x.ring(ring, 10 - ring, 0, 7);
        }
        x.star(11, 0, 101);
        x.steps(20);
        C.due("all are gone", x.count(3), 0);
        C.due("LUMPS", x.count(2), 30);
        C.due("the 31st part is dust", x.has(6, 4), 1);
        C.due("FALLEN", x.parts(2), 30);
    }

    /** Of RING 1 of three: dust of it is there, inside or outside after a step. */
    private static void way(int inside, int own, int outside, int to) {
        RingDisk x = C.disk(3, "drift 100 when ring = 1;");
        C.gas(x, inside, own, outside);
        x.dust(1, 2, 3);
        C.due("TRAP", x.has(1, 7), to == 1 ? 1 : 0);
        x.steps(1);
        C.due("WAY of " + inside + ", " + own + ", " + outside, x.has(to, 2), 3);
    }

    private static void ofEqualOnes() {
        C.says("the place of most gas of three: its own RING (it stays), the RING inside (or the STAR), the RING "
                + "outside; of equal ones the first of these");
        int[][] all = {{0, 0, 0, 1}, {5, 5, 5, 1}, {5, 5, 4, 1}, {4, 5, 5, 1}, {5, 4, 5, 0}, {5, 4, 4, 0},
            {4, 4, 5, 2}, {6, 4, 5, 0}, {5, 4, 6, 2}, {99999, 99998, 99999, 0}, {99998, 99999, 99999, 1},
            {4, 5, 4, 1}, {4, 5, 6, 2}, {6, 5, 4, 0}};
        for (int[] a : all) {
            way(a[0], a[1], a[2], a[3]);
        }
        int[][] star = {{5, 5, 5, 0}, {5, 4, 5, 9}, {5, 4, 6, 0}, {6, 4, 5, 9}, {5, 5, 4, 0}, {6, 5, 5, 9}};
        for (int[] s : star) {
            RingDisk x = C.disk(2, "drift 100 when ring = 0;");
            C.gas(x, s[1], s[2]);
            x.star(s[0], 0, 101);
            x.dust(0, 0, 9);
            x.steps(1);
            C.due("STAR " + s[0] + ", " + s[1] + ", " + s[2], x.parts(2), s[3]);
        }
    }

    private static void traps() {
        C.says("A RING is a TRAP if what is in it stays.");
        RingDisk x = C.disk(4, "");
        int[][] gas = {{0, 0, 0, 0, 15}, {4, 3, 2, 1, 1}, {1, 2, 3, 4, 8}, {1, 2, 2, 1, 6}, {2, 1, 1, 2, 9},
            {3, 3, 1, 3, 11}};
        for (int[] g : gas) {
            C.gas(x, g[0], g[1], g[2], g[3]);
            int bits = 0;
            for (int ring = 0; ring < 4; ring++) {
                bits |= x.has(ring, 7) << ring;
            }
            C.due("TRAPS as bits", bits, g[4]);
            C.due("how many", x.count(9), Integer.bitCount(g[4]));
        }
        C.gas(x, 4, 3, 2, 1);
        x.star(5, 0, 101);
        C.due("none is a TRAP", x.count(9), 0);
    }

    private static void newObject() {
        C.says("12 empty RINGS, no LAWS.");
        RingDisk x = new RingDisk();
        int[] counts = {0, 12, 0, 0, 0, 0, 0, 0, 0, 12, 0};
        for (int what = 0; what < counts.length; what++) {
            C.due("count(" + what + ")", x.count(what), counts[what]);
        }
        C.due("steps(100)", x.steps(100), 100);
        for (int ring = 0; ring < 12; ring++) {
            C.dustOf(x, ring, 0, 0, 0, 0, 0, 0, 0, 1);
        }
        for (int what = 0; what < 5; what++) {
            C.due("parts(" + what + ")", x.parts(what), 0);
        }
        C.due("LUMPS", x.count(2), 0);
    }

    private static void ringsAsAtFirst() {
        C.says("How many RINGS, all as at first then (LUMPS, FALLEN, THROWN none): true");
        RingDisk x = C.disk(12, "gather 1 when warm = 0 and size = 0; wander 1 when ring = 0;");
        for (int ring = 0; ring < 12; ring++) {
            x.ring(ring, 100, 9, 77);
            x.dust(ring, 3, 5);
        }
        C.due("the same number", x.rings(12), true);
        for (int ring = 0; ring < 12; ring++) {
            C.dustOf(x, ring, 0, 0, 0, 0, 0, 0, 0, 1);
            x.dust(ring, 0, 1);
        }
        x.steps(1);
        C.due("none is warm", x.count(2), 12);
        // Of PERIODS as at first those are not locked that have no half and no two thirds of theirs inside.
        for (int ring = 0; ring < 12; ring++) {
            C.due("locked " + ring, x.look(ring, 5), (ring + 1) % 2 == 0 || (ring + 1) % 3 == 0 ? 1 : 0);
        }
        RingDisk y = C.disk(2, "");
        y.dust(1, 0, 5);
        C.due("fewer, then more: what is left out is not kept", y.rings(3) && y.rings(2) && y.rings(3), true);
        C.due("parts", y.parts(4) + y.parts(2) + y.parts(3) + y.count(2), 0);
    }

    private static void ringsRefused() {
        C.says("false: STEP is not 0, another number");
        RingDisk x = C.disk(5, "");
        x.ring(4, 9, 8, 7);
        x.dust(4, 4, 6);
        for (int n : new int[] {1, 0, -1, -2, 13, 14, LEAST, MOST}) {
            C.due("rings(" + n + ")", x.rings(n), false);
        }
        C.due("all stays", x.count(1) * 1000 + x.has(4, 5) * 10 + x.has(4, 4), 5096);
        x.steps(1);
        for (int n = 2; n <= 12; n++) {
            C.due("at STEP 1: rings(" + n + ")", x.rings(n), false);
        }
        C.due("all stays", x.count(1) * 1000 + x.has(4, 5) * 10 + x.has(4, 4), 5096);
    }

    private static void ringRefused() {
        C.says("false: no such RING, other numbers, STEP is not 0");
        RingDisk x = C.disk(3, "");
        for (int ring : new int[] {-1, 3, 11, 12, LEAST, MOST}) {
            C.due("ring " + ring, x.ring(ring, 1, 1, 1), false);
        }
        C.due("the first RING", x.ring(0, 1, 1, 1), true);
        C.due("the last RING", x.ring(2, 2, 2, 2), true);
        C.due("gas of both", x.parts(0), 3);
        // One number that is wrong leaves the two others as they were.
        C.due("WARM is wrong", x.ring(2, 50, 1000, 2), false);
        C.due("PERIOD is wrong", x.ring(2, 50, 2, 0), false);
        C.due("gas", x.has(2, 5), 2);
        C.law(x, "gather 1 when warm = 2;", 0);
        x.dust(2, 0, 1);
        C.due("gas is wrong", x.ring(2, -1, 3, 2), false);
        C.due("PERIOD is wrong", x.ring(2, 2, 3, 10000), false);
        C.due("WARM is 2 as before", x.asked(0, 1, 1, 2), 1);
        x.steps(1);
        C.due("at STEP 1", x.ring(2, 50, 2, 2), false);
        C.due("gas", x.has(2, 5), 2);
        x.steps(99);
        C.due("at STEP 100", x.ring(2, 50, 2, 2), false);
    }

    private static void dustRefused() {
        C.says("false: none such, another number, STEP is not 0");
        RingDisk x = C.disk(3, "");
        C.due("the first of all", x.dust(0, 0, 1), true);
        C.due("the last of all", x.dust(2, 4, 2), true);
        for (int ring : new int[] {-1, 3, 11, 12, LEAST, MOST}) {
            C.due("RING " + ring, x.dust(ring, 0, 1), false);
        }
        for (int size : new int[] {-1, 5, 6, 7, LEAST, MOST}) {
            C.due("SIZE " + size, x.dust(0, size, 1), false);
        }
        for (int n : new int[] {-1, 100000, LEAST, MOST}) {
            C.due("number " + n, x.dust(0, 0, n), false);
        }
        x.steps(1);
        C.due("at STEP 1", x.dust(0, 0, 9), false);
        C.due("at STEP 1", x.dust(0, 0, 0), false);
        C.dustOf(x, 0, 1, 0, 0, 0, 0);
        C.dustOf(x, 1, 0, 0, 0, 0, 0);
        C.dustOf(x, 2, 0, 0, 0, 0, 2);
    }

    /** SEED 1 draws 16838 first: with LUCK 20 that is 8 above N (16838 % 41 is 28), and with LUCK 10 it is 7 above. */
    private static void starIs(RingDisk x, int trap, int stuck, int lighter) {
        C.due("PULL", x.has(0, 7), trap);
        x.mark(0, false);
        x.seed(1);
        x.steps(1);
        C.due("LUCK", x.has(0, 1), stuck);
        C.due("THROW", x.look(1, 0), lighter);
        x.mark(0, true);
    }

    private static void starRefused() {
        C.says("PULL, LUCK, THROW: true; false: others.");
        RingDisk x = C.disk(2, "stick 50 when ring = 0 and size = 0; gather 1 when ring = 1;");
        x.ring(0, 10, 0, 1);
        x.dust(0, 0, 100);
        x.dust(1, 4, 100);
        x.dust(1, 3, 1);
        starIs(x, 1, 50, 1);
        C.due("the most of LUCK, the least of THROW", x.star(11, 20, 1), true);
        starIs(x, 0, 58, 3);
        for (int bad : new int[] {-1, 100000, LEAST, MOST}) {
            C.due("PULL " + bad, x.star(bad, 10, 101), false);
        }
        for (int bad : new int[] {-1, 21, LEAST, MOST}) {
            C.due("LUCK " + bad, x.star(0, bad, 101), false);
        }
        for (int bad : new int[] {0, -1, 102, LEAST, MOST}) {
            C.due("THROW " + bad, x.star(0, 10, bad), false);
        }
        starIs(x, 0, 58, 3);
        C.due("the least of PULL and LUCK, the most of THROW", x.star(0, 0, 101), true);
        starIs(x, 1, 50, 1);
        C.due("the most of PULL", x.star(99999, 10, 100), true);
        starIs(x, 0, 57, 1);
        x.steps(1);
        C.due("at any STEP", x.star(0, 0, 101) && x.has(0, 7) == 1, true);
    }

    /** With LUCK 20 and N 50 the next number of the seed is seen in what sticks of 100. */
    private static void seedIs(RingDisk x, long g) {
        x.mark(1, false);
        x.steps(1);
        long drawn = (g * 1103515245L + 12345) % 2147483648L / 65536;
        C.due("SEED " + g, x.has(0, 1), 50 + drawn % 41 - 20);
        x.mark(1, true);
    }

    private static void seedBounds() {
        C.says("SEED (0 to 2147483647): true; false: another one.");
        RingDisk x = C.disk(2, "stick 50 when ring = 0 and size = 0;");
        x.dust(0, 0, 100);
        x.star(0, 20, 101);
        seedIs(x, 0);
        for (int g : new int[] {2147483647, 1, 2147483646, 65535, 0}) {
            C.due("seed(" + g + ")", x.seed(g), true);
            seedIs(x, g);
            C.due("seed(-1)", x.seed(-1), false);
            C.due("seed(-2147483648)", x.seed(LEAST), false);
            seedIs(x, g);
        }
        x.steps(1);
        C.due("at any STEP", x.seed(5), true);
    }

    private static void signsOfTheTape() {
        C.says("10 and 32 .. 126");
        RingDisk x = new RingDisk();
        int taken = 0;
        for (int sign = 0; sign < 256; sign++) {
            taken += sign == 10 || sign >= 32 && sign <= 126 ? 1 : 0;
            C.due("sign " + sign, x.feed(0, (long) sign << 56, 0), taken);
        }
        C.due("signs on the TAPE", x.count(7), 96);
        C.due("and they are read", x.laws(), 1 + 16 * 2);
    }

    private static void upTo24() {
        C.says("Up to 24 signs come behind the TAPE: the bytes of a, b, c, of each the highest first");
        RingDisk x = new RingDisk();
        C.due("none", x.feed(0, 0, 0), 0);
        C.due("24", x.feed(Check.bytes("gather 1", 0), Check.bytes(" to 9999", 0), Check.bytes("9 when 1", 0)), 24);
        C.due("one, the lowest byte of the last", x.feed(0, 0, ';'), 25);
        C.due("in that order", x.laws(), 0);
        C.due("OPEN", x.count(5), 1);
        C.due("the highest and the lowest byte", x.feed(0x6700000000000061L, 'p', 0x2031000000000000L), 5);
        C.due("behind them", Check.put(x, " when 1;"), 13);
        C.due("gap 1 when 1;", x.laws(), 0);
        C.due("LAWS", x.count(4), 1);
        C.due("others are left out", x.feed(-1L, 0x7F1F090B0D808182L, 0x00A0C0E0F0FF0102L), 0);
    }

    private static RingDisk blanks(int n) {
        RingDisk x = new RingDisk();
        C.due(n + " blanks", Check.put(x, " ".repeat(n)), n);
        return x;
    }

    private static void beyond1000() {
        C.says("what is beyond 1,000, are left out: how many there are");
        RingDisk just = blanks(987);
        C.due("13 more", Check.put(just, "gap 1 when 1;"), 1000);
        C.due("one too many", Check.put(just, "!"), 1000);
        C.due("of it nothing is read", just.laws(), 0);
        C.due("LAWS", just.count(4), 1);
        RingDisk over = blanks(988);
        C.due("the semicolon is beyond", Check.put(over, "gap 1 when 1;"), 1000);
        C.due("count(7)", over.count(7), 1000);
        C.due("FAULT at the end", over.laws(), 1 + 16 * 1000);
        C.due("the TAPE is empty", over.count(7), 0);
        C.due("there is room again", Check.put(over, " ".repeat(1001)), 1000);
        RingDisk among = blanks(999);
        C.due("what is left out takes no room", among.feed(0x0001020300000000L, 0x7F80FF0000000000L, '!'), 1000);
        C.due("the last sign", among.laws(), 1 + 16 * 999);
    }

    private static void calls512() {
        C.says("An object is used for at most 512 calls after it has been made");
        RingDisk x = new RingDisk();
        for (int call = 1; call <= 510; call++) {
            C.due("call " + call, x.feed(0, 0, call % 2 == 0 ? 'a' : ' '), call);
        }
        C.due("the 511th", x.laws(), 1 + 16);
        C.due("the 512th", x.count(7), 0);
    }

    private static void hasBounds() {
        C.says("SIZE 0 to 4: dust, 5: gas, 6: all dust, 7: 1 if it is a TRAP, else 0. "
                + "NoSuchElementException: none such.");
        RingDisk x = C.disk(3, "");
        x.ring(2, 70, 0, 1);
        for (int size = 0; size < 5; size++) {
            x.dust(2, size, 10 + size);
        }
        C.dustOf(x, 2, 10, 11, 12, 13, 14, 70, 60, 1);
        C.dustOf(x, 1, 0, 0, 0, 0, 0, 0, 0, 0);
        for (int ring : new int[] {-1, 3, 4, 11, 12, LEAST, MOST}) {
            for (int size : new int[] {-1, 0, 4, 5, 6, 7, 8}) {
                C.due("has(" + ring + ", " + size + ")", isThere(x, ring, size), false);
            }
        }
        for (int size : new int[] {-1, 8, 9, LEAST, MOST}) {
            for (int ring = 0; ring < 3; ring++) {
                C.due("has(" + ring + ", " + size + ")", isThere(x, ring, size), false);
            }
        }
        x.steps(1);
        C.due("at any STEP", isThere(x, 2, 7) && !isThere(x, 3, 0), true);
    }
}
