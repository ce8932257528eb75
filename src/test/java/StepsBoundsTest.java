import java.math.BigInteger;

/** Promise 10 and part 3 of the terms: each sentence of the document that names a bound. */
public final class StepsBoundsTest {
    private static final Check C = new Check();
    private static final int[] HUNDREDTHS = {0, 1, 33, 50, 99, 100};
    private static final int[] AMOUNTS = {0, 1, 2, 3, 99, 100, 101, 199, 99999};

    public static void main(String[] args) {
        stickBySizes();
        stickCut();
        luckWithin();
        luckGoesRound();
        luckIsDrawn();
        breakBySizes();
        breakCut();
        driftCut();
        driftAsItWas();
        ownRingAndStar();
        heldBack();
        heldBackInwardsAlone();
        gatherAtLeast();
        gatherBySizes();
        gatherIfOneMoreMay();
        feedCut();
        feedAskedOnce();
        eatCut();
        byNumbers();
        wanderCounts();
        wanderOnlyWithALaw();
        lockedPeriods();
        lockedFurtherIn();
        meetOfEqual();
        meetInARow();
        eatenIsTheHeavierOnes();
        throwShare();
        theMostInOnePlace();
        nSteps();
        upTo9999();
        partByPart();
        C.end("StepsBoundsTest");
    }

    private static int cut(long amount, int hundredths) {
        return (int) (amount * hundredths / 100);
    }

    private static void stickBySizes() {
        C.says("for each RING from 0 on, each SIZE from 3 down to 0");
        for (int size = 0; size < 5; size++) {
            RingDisk x = C.disk(2, "stick 100 when 1;");
            x.dust(1, size, 7);
            for (int step = 1; step <= 5; step++) {
                x.steps(1);
                C.due("SIZE " + size + " behind " + step, x.has(1, Math.min(4, size + step)), 7);
                C.due("all of it", x.has(1, 6), 7);
            }
        }
        // The law of SIZE 0 sees what has left SIZES 3, 2 and 1 ahead of it, in this RING and those ahead.
        RingDisk y = C.disk(2, "stick 100 when size = 3; stick 50 when size = 2 and dust = 8;"
                + "stick 100 when size = 1 and all = 18; stick 100 when size = 0 and dust = 1;");
        y.dust(0, 3, 5);
        y.dust(0, 2, 8);
        y.dust(0, 1, 4);
        y.dust(0, 0, 1);
        y.steps(1);
        C.dustOf(y, 0, 0, 1, 8, 4, 5);
    }

    private static void stickCut() {
        C.says("N of 100 of its dust, cut, becomes of the SIZE above");
        for (int n : HUNDREDTHS) {
            for (int amount : AMOUNTS) {
                RingDisk x = C.disk(2, "stick " + n + " when size = 3;");
                x.dust(0, 3, amount);
                x.dust(0, 4, 6);
                x.steps(1);
                C.dustOf(x, 0, 0, 0, 0, amount - cut(amount, n), 6 + cut(amount, n));
            }
        }
    }

    /** What g becomes, by numbers that do not go round. */
    private static int next(int g) {
        BigInteger all = BigInteger.valueOf(g).multiply(BigInteger.valueOf(1103515245)).add(BigInteger.valueOf(12345));
        return all.mod(BigInteger.valueOf(2147483648L)).intValueExact();
    }

    /** N with LUCK, by the number that is drawn when g is ahead. */
    private static int lucky(int n, int luck, int g) {
        int with = n + next(g) / 65536 % (2 * luck + 1) - luck;
        return with < 0 ? 0 : Math.min(with, 100);
    }

    private static void luckWithin() {
        C.says("N is first N + (x modulo (2 * LUCK + 1)) - LUCK, within 0 and 100");
        for (int n : new int[] {0, 1, 19, 20, 50, 80, 81, 99, 100}) {
            for (int luck : new int[] {0, 1, 2, 19, 20}) {
                for (int g : new int[] {0, 1, 2, 3, 77, 2147483647}) {
                    RingDisk x = C.disk(2, "stick " + n + " when size = 0 and ring = 0;");
                    x.star(0, luck, 101);
                    x.seed(g);
                    x.dust(0, 0, 10000);
                    x.steps(1);
                    C.due("N " + n + ", LUCK " + luck + ", SEED " + g, x.has(0, 1), 100 * lucky(n, luck, g));
                }
            }
        }
    }

    private static void luckGoesRound() {
        C.says("g becomes (g * 1103515245 + 12345) modulo 2147483648, x is g / 65536");
        for (int first : new int[] {0, 1, 2147483647, 2147483646, 1073741824, 65536}) {
            RingDisk x = C.disk(12, "stick 50 when size = 3;");
            x.star(0, 20, 101);
            x.seed(first);
            int[] left = new int[12];
            for (int ring = 0; ring < 12; ring++) {
                x.dust(ring, 3, 99999);
                left[ring] = 99999;
            }
            int g = first;
            for (int step = 0; step < 10; step++) {
                x.steps(1);
                for (int ring = 0; ring < 12; ring++) {
                    left[ring] -= cut(left[ring], lucky(50, 20, g));
                    C.due("SEED " + first + ", STEP " + step + ", RING " + ring, x.has(ring, 3), left[ring]);
                    g = next(g);
                }
            }
        }
    }

    /** Laws that find no dust that sticks: how many numbers they have drawn in a STEP is seen in the one behind. */
    private static void drawnAre(int draws, int luck, String laws) {
        RingDisk x = C.disk(3, laws);
        x.star(0, luck, 101);
        x.dust(2, 4, 10000);
        x.steps(1);
        x.star(0, 20, 101);
        C.law(x, "break 100 when step = 1; stick 50 when ring = 2 and size = 0 and step = 2;", 0);
        x.steps(2);
        int g = 0;
        for (int i = 0; i < draws; i++) {
            g = next(g);
        }
        C.due(draws + " were drawn by " + laws, x.has(2, 1), 100 * lucky(50, 20, g));
    }

    private static void luckIsDrawn() {
        C.says("(Drawn just where a stick law holds and LUCK is above 0.)");
        for (int luck : new int[] {1, 20}) {
            drawnAre(0, luck, "");
            drawnAre(0, luck, "stick 0 when 0;");
            drawnAre(0, luck, "stick 0 when size = 4 or dust;");
            drawnAre(0, luck, "break 0 when 1; drift 0 when 1; gather 99999 when 1;");
            drawnAre(1, luck, "stick 50 when ring = 0 and size = 0;");
            drawnAre(1, luck, "stick 0 when ring = 2 and size = 3;");
            drawnAre(4, luck, "stick 50 when ring = 0; stick 0 when ring = 0;");
            drawnAre(6, luck, "stick 50 when ring < 2 and size < 3;");
            drawnAre(12, luck, "stick 100 when 1;");
        }
        drawnAre(0, 0, "stick 50 when ring < 2;");
        drawnAre(0, 0, "stick 50 when 1;");
    }

    private static void breakBySizes() {
        C.says("for each RING, SIZES 1 to 4: N of 100, cut, becomes of SIZE 0");
        for (int size = 0; size < 5; size++) {
            RingDisk x = C.disk(2, "break 100 when 1;");
            x.dust(1, size, 7);
            x.steps(1);
            C.dustOf(x, 1, 7, 0, 0, 0, 0);
        }
        // SIZE 4 sees what SIZES 1 to 3 have left ahead of it.
        RingDisk y = C.disk(2, "break 100 when size < 4; break 50 when all = 20 and dust = 5;");
        for (int size = 1; size < 5; size++) {
            y.dust(0, size, 5);
        }
        y.steps(1);
        C.dustOf(y, 0, 17, 0, 0, 0, 3);
        RingDisk z = C.disk(2, "break 100 when size = 0;");
        z.dust(0, 0, 5);
        z.dust(0, 1, 5);
        z.steps(1);
        C.dustOf(z, 0, 5, 5, 0, 0, 0);
    }

    private static void breakCut() {
        C.says("(2) BREAK");
        for (int n : HUNDREDTHS) {
            for (int amount : AMOUNTS) {
                RingDisk x = C.disk(2, "break " + n + " when size = 4;");
                x.dust(0, 4, amount);
                x.dust(0, 0, 6);
                x.steps(1);
                C.dustOf(x, 0, 6 + cut(amount, n), 0, 0, 0, amount - cut(amount, n));
            }
        }
    }

    private static void driftCut() {
        C.says("N of 100, cut, leaves by its WAY");
        for (int n : HUNDREDTHS) {
            for (int amount : AMOUNTS) {
                RingDisk x = C.disk(2, "drift " + n + " when size = 2;");
                C.gas(x, 5, 4);
                x.dust(1, 2, amount);
                x.dust(1, 1, 50);
                x.dust(0, 2, 6);
                x.steps(1);
                C.dustOf(x, 1, 0, 50, amount - cut(amount, n), 0, 0);
                C.dustOf(x, 0, 0, 0, 6 + cut(amount, n), 0, 0);
            }
        }
    }

    private static void driftAsItWas() {
        C.says("of each RING and SIZE, as it was at the begin of this part");
        for (int way = 0; way < 2; way++) {
            RingDisk x = C.disk(12, "drift 100 when 1;");
            for (int ring = 0; ring < 12; ring++) {
                x.ring(ring, way == 0 ? 100 - ring : 100 + ring, 0, 1);
                x.dust(ring, 0, 10 + ring);
            }
            x.steps(1);
            for (int ring = 1; ring < 11; ring++) {
                C.due("one RING a STEP", x.has(ring, 0), way == 0 ? 11 + ring : 9 + ring);
            }
            C.due("the last of them", x.has(way == 0 ? 0 : 11, 0), way == 0 ? 10 + 11 : 20 + 21);
            C.due("the first of them", x.has(way == 0 ? 11 : 0, 0), 0);
        }
        RingDisk half = C.disk(3, "drift 50 when 1;");
        C.gas(half, 9, 8, 7);
        half.dust(2, 0, 100);
        half.dust(1, 0, 50);
        half.steps(1);
        C.due("a half of 50, not of 100", half.has(0, 0), 25);
        C.due("25 and 50", half.has(1, 0), 75);
    }

    private static void ownRingAndStar() {
        C.says("none if that is its own RING; into the STAR it is FALLEN");
        RingDisk x = C.disk(2, "drift 100 when 1;");
        C.gas(x, 5, 5);
        x.dust(0, 0, 9);
        x.dust(1, 4, 8);
        x.steps(3);
        C.due("it stays", x.has(0, 0) * 10 + x.has(1, 4), 98);
        x.star(5, 0, 101);
        x.steps(1);
        C.due("as much gas as the STAR: it stays", x.has(0, 0), 9);
        x.star(6, 0, 101);
        x.steps(1);
        C.due("FALLEN", x.parts(2), 9);
        C.due("nothing is there", x.has(0, 6), 0);
        C.due("no LUMP came of it", x.count(2), 0);
    }

    private static void heldBack() {
        C.says("what would go inwards into a RING in which a LUMP has a gap law whose N is at most the SIZE stays");
        for (int gap = 0; gap < 5; gap++) {
            RingDisk x = C.disk(2, "gather 50 when ring = 0 and step = 0; drift 100 when step = 1; gap " + gap
                    + " when ring = 0;");
            C.gas(x, 9, 5);
            x.dust(0, 4, 50);
            for (int size = 0; size < 5; size++) {
                x.dust(1, size, 10 + size);
            }
            x.steps(2);
            for (int size = 0; size < 5; size++) {
                C.due("gap " + gap + ", SIZE " + size, x.has(1, size), gap <= size ? 10 + size : 0);
                C.due("gap " + gap + ", SIZE " + size, x.has(0, size), gap <= size ? 0 : 10 + size);
            }
        }
    }

    /** Dust in RINGS 0 and 2 of three, a LUMP with gap 0 in RING 1 or without a law, gas as told. */
    private static RingDisk round(String gap, int a, int b, int c) {
        RingDisk x = C.disk(3, "gather 50 when ring = 1 and step = 0; drift 100 when step = 1;" + gap);
        C.gas(x, a, b, c);
        x.dust(1, 4, 50);
        x.dust(0, 4, 7);
        x.dust(2, 4, 8);
        x.steps(2);
        return x;
    }

    private static void heldBackInwardsAlone() {
        C.says("HELD BACK: what would go inwards");
        RingDisk both = round("gap 0 when 1;", 5, 9, 5);
        C.due("outwards it goes in to the LUMP", both.has(1, 4), 7);
        C.due("inwards it stays", both.has(2, 4), 8);
        RingDisk none = round("gap 0 when weight = 51;", 5, 9, 5);
        C.due("no gap law holds", none.has(1, 4), 15);
        RingDisk past = round("gap 0 when 1;", 9, 5, 4);
        C.due("the LUMP's own RING", past.has(0, 4), 7);
        C.due("into the LUMP's RING", past.has(2, 4), 8);
        RingDisk away = round("gap 0 when 1; wander 1 when 1;", 9, 5, 4);
        C.due("the LUMP has gone on to RING 0", away.look(0, 1), 0);
        C.due("RING 1 holds back no more", away.has(1, 4), 8);
        RingDisk star = C.disk(2, "gather 50 when step = 0; drift 100 when step = 1; gap 0 when 1;");
        C.gas(star, 5, 4);
        star.star(9, 0, 101);
        star.dust(0, 4, 50);
        star.dust(0, 0, 6);
        star.steps(2);
        C.due("into the STAR nothing is held back", star.parts(2), 6);
    }

    private static void gatherAtLeast() {
        C.says("if the dust is at least N, all of it becomes a LUMP there");
        for (int n : new int[] {1, 2, 50, 99999}) {
            for (int amount : new int[] {n - 1, n, n + 1}) {
                if (amount > 99999) {
                    continue;
                }
                RingDisk x = C.disk(2, "gather " + n + " when 1;");
                x.dust(1, 2, amount);
                x.steps(1);
                C.due("N " + n + " of " + amount, x.count(2), amount >= n ? 1 : 0);
                C.due("dust that is left", x.has(1, 2), amount >= n ? 0 : amount);
                C.due("all of it", x.made(0, 1), amount >= n ? amount : -1);
            }
        }
        RingDisk none = C.disk(12, "gather 1 when 1;");
        none.steps(100);
        C.due("no dust, no LUMP", none.count(2), 0);
    }

    private static void gatherBySizes() {
        C.says("(4) GATHER: for each RING, SIZES from 4 down to 0");
        RingDisk x = C.disk(2, "gather 1 when 1; seen 1 when 1;");
        for (int size = 0; size < 5; size++) {
            x.dust(0, size, 10 + size);
            x.dust(1, size, 20 + size);
        }
        x.steps(1);
        C.due("LUMPS", x.count(2), 10);
        // The first of a RING is of SIZE 4 and the heaviest, so it eats the others.
        C.due("RING 0", x.look(0, 0) * 100 + x.look(0, 2), 60);
        C.due("RING 1", x.look(5, 0) * 1000 + x.look(5, 2), 110);
        for (int i = 1; i < 5; i++) {
            C.due("of SIZE " + (4 - i), x.look(i, 2), 14 - i);
            C.due("of SIZE " + (4 - i), x.look(5 + i, 2), 24 - i);
        }
        RingDisk y = C.disk(2, "gather 1 when all = 3 or lumps;");
        y.dust(0, 0, 5);
        y.dust(1, 4, 2);
        y.dust(1, 0, 1);
        y.steps(1);
        C.due("asked as it goes", y.count(2), 2);
        C.due("RING 0 was ahead of them", y.has(0, 0), 5);
    }

    private static void gatherIfOneMoreMay() {
        C.says("(if one more may come)");
        RingDisk x = C.disk(12, "gather 1 when step = 0 and ring < 6; gather 1 when step = 1;");
        for (int ring = 0; ring < 7; ring++) {
            for (int size = 0; size < 5; size++) {
                x.dust(ring, size, ring == 5 && size == 0 ? 0 : 3);
            }
        }
        x.steps(1);
        C.due("29", x.count(2), 29);
        x.steps(1);
        C.due("one more", x.count(2), 30);
        C.due("of SIZE 4", x.look(29, 1), 6);
        C.dustOf(x, 6, 3, 3, 3, 3, 0);
    }

    private static void feedCut() {
        C.says("of each SIZE in its RING, from 0 on, N of 100, cut");
        for (int n : HUNDREDTHS) {
            for (int amount : AMOUNTS) {
                RingDisk x = C.disk(2, "gather 1 when ring = 1 and size = 4; feed " + n + " when 1;");
                x.dust(1, 4, 5);
                for (int size = 0; size < 4; size++) {
                    x.dust(1, size, amount);
                    x.dust(0, size, 1000);
                }
                x.steps(1);
                int left = amount - cut(amount, n);
                C.dustOf(x, 1, left, left, left, left, 0);
                C.due("taken", x.made(0, 1), 5 + 4 * cut(amount, n));
                C.due("in its RING alone", x.has(0, 6), 4000);
            }
        }
    }

    private static void feedAskedOnce() {
        C.says("(its law is asked once, ahead of all SIZES)");
        RingDisk x = C.disk(2, "gather 5 when size = 4; feed 100 when all = 10; feed 0 when 1;");
        x.dust(0, 4, 5);
        for (int size = 0; size < 4; size++) {
            x.dust(0, size, 1 + size);
        }
        x.steps(1);
        C.due("all of every SIZE", x.look(0, 2), 15);
        C.due("nothing is left", x.has(0, 6), 0);
    }

    private static void eatCut() {
        C.says("N of 100 of its RING's gas, cut");
        for (int n : HUNDREDTHS) {
            for (int amount : AMOUNTS) {
                RingDisk x = C.disk(2, "gather 1 when 1; eat " + n + " when 1;");
                C.gas(x, 7, amount);
                x.dust(1, 4, 5);
                x.steps(1);
                C.due("gas that is left", x.has(1, 5), amount - cut(amount, n));
                C.due("gas of it", x.look(0, 3), cut(amount, n));
                C.due("WEIGHT", x.look(0, 2), 5 + cut(amount, n));
                C.due("of its RING alone", x.has(0, 5), 7);
                C.due("no dust", x.made(0, 1), 5);
            }
        }
    }

    private static void byNumbers() {
        C.says("each LUMP THERE, by numbers");
        RingDisk x = C.disk(2, "gather 1 when 2 < size; feed 50 when 1; eat 50 when 1;");
        C.gas(x, 101, 0);
        x.star(0, 0, 1);
        x.dust(0, 4, 5);
        x.dust(0, 3, 5);
        x.dust(0, 0, 101);
        x.steps(1);
        C.due("the first takes of all", x.look(0, 2), 5 + 50 + 50);
        C.due("the second of what is left", x.look(1, 2), 5 + 25 + 25);
        x.steps(1);
        C.due("who is THROWN takes no more", x.look(1, 2), 55);
        C.due("who is THERE does", x.look(0, 2), 105 + 13 + 13);
    }

    private static void wanderCounts() {
        C.says("its COUNT grows by 1; if it is N at least then, it is 0, and the LUMP goes by its WAY");
        for (int n : new int[] {1, 2, 3, 98, 99}) {
            RingDisk x = C.disk(2, "gather 1 when 1; wander " + n + " when 1;");
            C.gas(x, 5, 9);
            x.dust(0, 0, 1);
            for (int step = 1; step <= n; step++) {
                x.steps(1);
                C.due("N " + n + ": COUNT at " + step, x.look(0, 9), step < n ? step : 0);
                C.due("N " + n + ": RING at " + step, x.look(0, 1), step < n ? 0 : 1);
            }
            x.steps(n);
            C.due("N " + n + ": it stays in a TRAP", x.look(0, 1) * 1000 + x.look(0, 9), 1000);
        }
        RingDisk less = C.disk(2, "gather 1 when 1; wander 99 when 1;");
        C.gas(less, 5, 9);
        less.dust(0, 0, 1);
        less.steps(7);
        C.law(less, "wander 8 when 1;", 0);
        less.mark(0, false);
        less.steps(1);
        C.due("8 is N", less.look(0, 1), 1);
        less.mark(0, true);
        C.law(less, "wander 3 when 1;", 0);
        less.steps(1);
        C.due("8 is more than N", less.look(0, 1), 1);
        less.mark(0, true);
        C.law(less, "wander 9 when 1;", 0);
        less.steps(1);
        C.due("8 is less than N", less.look(0, 1) * 100 + less.look(0, 9), 8);
    }

    private static void wanderOnlyWithALaw() {
        C.says("each LUMP THERE, by numbers, that has a wander law and is not LOCKED");
        RingDisk x = C.disk(2, "gather 1 when 1; wander 3 when step = 0 or step = 5 or step = 9;");
        C.gas(x, 5, 9);
        x.dust(0, 0, 1);
        int[] count = {1, 1, 1, 1, 1, 2, 2, 2, 2, 0, 0};
        for (int step = 0; step < count.length; step++) {
            x.steps(1);
            C.due("COUNT behind STEP " + step, x.look(0, 9), count[step]);
        }
        C.due("it went", x.look(0, 1), 1);
        RingDisk gone = C.disk(2, "gather 1 when 1; wander 1 when 1;");
        gone.star(1, 0, 101);
        gone.dust(0, 0, 4);
        gone.steps(9);
        C.due("who is FALLEN falls once", gone.parts(2), 4);
        C.due("and none is THERE", gone.count(3), 0);
    }

    /** With LUMPS in RINGS 1 and 3 of five, of PERIODS p and q. */
    private static RingDisk two(int p, int q) {
        RingDisk x = C.disk(5, "gather 1 when 1; wander 9 when 1;");
        x.ring(1, 0, 0, p);
        x.ring(3, 0, 0, q);
        x.dust(1, 0, 1);
        x.dust(3, 0, 1);
        x.steps(1);
        return x;
    }

    private static void lockedPeriods() {
        C.says("their PERIODS are as 2 to 1 or as 3 to 2");
        int[][] all = {{1, 2, 1}, {1, 1, 0}, {1, 3, 0}, {2, 3, 1}, {2, 4, 1}, {2, 5, 0}, {3, 4, 0}, {3, 5, 0},
            {3, 6, 1}, {4, 6, 1}, {4, 7, 0}, {4, 5, 0}, {4999, 9998, 1}, {4999, 9999, 0}, {5000, 9999, 0},
            {6666, 9999, 1}, {6665, 9999, 0}, {6667, 9999, 0}, {6664, 9996, 1}, {9999, 9999, 0}, {1, 9999, 0},
            {9999, 1, 0}};
        for (int[] a : all) {
            RingDisk x = two(a[0], a[1]);
            C.due("LOCKED with " + a[0] + " and " + a[1], x.look(1, 5), a[2]);
            C.due("a LOCKED one's COUNT does not grow", x.look(1, 9), 1 - a[2]);
            x.steps(4);
            C.due("nor later", x.look(1, 9), 5 - 5 * a[2]);
        }
    }

    private static void lockedFurtherIn() {
        C.says("LOCKED is a LUMP if there is one THERE in a RING further in");
        RingDisk x = two(100, 200);
        C.due("the inner one is not", x.look(0, 5), 0);
        C.due("the inner one's COUNT grows", x.look(0, 9), 1);
        RingDisk alone = C.disk(2, "gather 1 when 1; wander 9 when 1;");
        alone.dust(1, 0, 1);
        alone.steps(1);
        C.due("none is further in", alone.look(0, 5), 0);
        RingDisk gone = C.disk(2, "gather 1 when 1; wander 1 when ring = 0; wander 9 when 1;");
        gone.star(1, 0, 101);
        gone.dust(0, 0, 1);
        gone.dust(1, 0, 1);
        gone.steps(1);
        C.due("the one further in fell ahead of it", gone.look(0, 0), 2);
        C.due("none is THERE", gone.look(1, 5), 0);
        C.due("so it counts", gone.look(1, 9), 1);
        RingDisk far = C.disk(12, "gather 1 when 1;");
        far.ring(11, 0, 0, 200);
        far.dust(0, 0, 1);
        far.dust(5, 0, 1);
        far.dust(11, 0, 1);
        far.steps(1);
        C.due("any RING further in", far.look(2, 5), 1);
    }

    private static void meetOfEqual() {
        C.says("of the two with the least numbers the heavier one (of equal ones the first) stays");
        int[][] all = {{5, 5, 0}, {5, 6, 1}, {6, 5, 0}, {1, 1, 0}, {99998, 99999, 1}, {99999, 99999, 0}};
        for (int[] a : all) {
            RingDisk x = C.disk(2, "gather 1 when 1;");
            x.dust(0, 4, a[0]);
            x.dust(0, 3, a[1]);
            x.steps(1);
            C.due(a[0] + " and " + a[1] + ": stays", x.look(a[2], 0), 0);
            C.due("the other", x.look(1 - a[2], 0), 1);
            C.due("by", x.look(1 - a[2], 6), a[2]);
            C.due("all that it was made of", x.look(a[2], 2), a[0] + a[1]);
            C.due("by nobody", x.look(a[2], 6), -1);
        }
    }

    private static void meetInARow() {
        C.says("as long as two LUMPS are THERE in it");
        RingDisk even = five(101, 10, 10, 10, 10, 10);
        C.due("the first has all", even.look(0, 2), 50);
        RingDisk growing = five(101, 1, 2, 4, 8, 16);
        C.due("the last has all", growing.look(4, 2), 31);
        for (int i = 0; i < 4; i++) {
            C.due("each by", even.look(i + 1, 6), 0);
            C.due("each by the next", growing.look(i, 6), i + 1);
            C.due("what it had", growing.look(i, 2), (2 << i) - 1);
        }
        // Not the heaviest of all, but the two with the least numbers first: 3 + 2 is heavier than 4.
        RingDisk first = five(101, 3, 2, 4, 6, 7);
        C.due("the first eats on", first.look(0, 2), 22);
        C.due("THERE", first.count(3), 1);
        RingDisk thrown = five(1, 5, 4, 3, 2, 1);
        C.due("all others are THROWN", thrown.parts(3), 10);
        C.due("who stays has its own", thrown.look(0, 2), 5);
        // 10 throws 6 of a half, eats 4, is 14 then, throws 7 and eats 6.
        RingDisk both = five(50, 10, 6, 4, 7, 6);
        int[] want = {0, 3, 1, 3, 1};
        for (int i = 0; i < 5; i++) {
            C.due("state of " + i, both.look(i, 0), want[i]);
        }
        C.due("WEIGHT", both.look(0, 2), 20);
        C.due("THROWN", both.parts(3), 13);
    }

    /** Five LUMPS in RING 1, numbered 0 to 4, as they are behind the STEP in which they came. */
    private static RingDisk five(int share, int... weight) {
        RingDisk x = C.disk(3, "gather 1 when 1;");
        x.star(0, 0, share);
        for (int i = 0; i < 5; i++) {
            x.dust(1, 4 - i, weight[i]);
        }
        x.steps(1);
        return x;
    }

    private static void eatenIsTheHeavierOnes() {
        C.says("EATEN: all that it was made of is the heavier one's");
        RingDisk x = C.disk(3, "gather 1 when step = 0; feed 100 when 1; eat 50 when 1; wander 1 when ring = 2;");
        x.ring(0, 5, 0, 1);
        x.ring(1, 90, 0, 1);
        x.ring(2, 40, 0, 1);
        x.dust(1, 0, 70);
        x.dust(2, 0, 8);
        x.steps(1);
        // They meet at once: the one of RING 2 has come in with 20 of gas.
        C.due("EATEN", x.look(1, 0), 1);
        C.due("dust by RINGS", x.made(0, 1) * 100 + x.made(0, 2), 7008);
        C.due("gas", x.look(0, 3), 45 + 20);
        C.due("WEIGHT", x.look(0, 2), 70 + 8 + 65);
        C.due("it is the lighter one's RING no more", x.look(1, 1), 1);
    }

    private static void throwShare() {
        C.says("if the other's WEIGHT * 100 is at least the heavier one's * THROW (1 to 101; 101 at first: never) the "
                + "other one is THROWN, else EATEN");
        int[][] all = {{1, 100, 1, 3}, {1, 101, 1, 1}, {1, 99, 1, 3}, {50, 100, 50, 3}, {49, 100, 50, 1},
            {51, 100, 50, 3}, {100, 100, 100, 3}, {99, 100, 100, 1}, {100, 100, 101, 1}, {99999, 99999, 101, 1},
            {99999, 99999, 100, 3}, {99998, 99999, 100, 1}, {1, 1, 100, 3}, {1, 1, 101, 1}, {1, 1, 1, 3},
            {1, 99999, 1, 1}, {1000, 99999, 1, 3}, {999, 99999, 1, 1}};
        for (int[] a : all) {
            for (int turn = 0; turn < 2; turn++) {
                RingDisk x = C.disk(2, "gather 1 when 1;");
                x.star(0, 0, a[2]);
                x.dust(0, 4, a[turn]);
                x.dust(0, 3, a[1 - turn]);
                x.steps(1);
                int other = a[0] == a[1] ? 1 : turn;
                String told = a[0] + ", " + a[1] + ", THROW " + a[2];
                C.due(told, x.look(other, 0), a[3]);
                C.due(told + ": the heavier one", x.look(1 - other, 2), a[3] == 3 ? a[1] : a[0] + a[1]);
                C.due(told + ": THROWN", x.parts(3), a[3] == 3 ? a[0] : 0);
            }
        }
    }

    /** All that can be told, in one place: no number is too large to be counted. */
    private static void theMostInOnePlace() {
        C.says("Its WEIGHT is what it has taken");
        RingDisk x = C.disk(12, "break 100 when step = 0; drift 100 when step < 12; stick 99 when step = 12;"
                + "gather 1 when step = 13; eat 100 when 1; wander 1 when step < 40;");
        for (int ring = 0; ring < 12; ring++) {
            x.ring(ring, 99999 - ring, 0, 1);
            for (int size = 0; size < 5; size++) {
                x.dust(ring, size, 99999);
            }
        }
        x.steps(12);
        C.due("dust of RING 0", x.has(0, 0), 5999940);
        x.steps(1);
        C.due("99 of 100 of it, cut", x.has(0, 1), 5939940);
        C.due("what is left", x.has(0, 0), 60000);
        x.mark(0, false);
        for (int share : new int[] {1, 2, 100, 101}) {
            x.mark(0, true);
            x.star(0, 0, share);
            x.steps(1);
            // SIZE 1 gathers first and eats all gas: 60000 * 100 is not 5939940 + 99999 times 1.
            C.due("by THROW " + share, x.look(1, 0), 1);
            C.due("WEIGHT", x.look(0, 2), 5999940 + 99999);
        }
        x.mark(0, true);
        C.law(x, "stick 50 when step = 13 and size = 0; break 50 when step = 13; gather 1 when step = 14;", 0);
        x.steps(1);
        C.dustOf(x, 0, 3014970, 2984970, 0, 0, 0);
        x.star(0, 0, 99);
        x.steps(1);
        C.due("2984970 is 99 of 100 of 3014970 at least", x.look(0, 0), 3);
        C.due("all", x.parts(4), 5999940 + 12 * 99999 - 66);
        C.due("all", x.parts(0) + x.parts(1) + x.parts(2) + x.parts(3), x.parts(4));
    }

    private static void nSteps() {
        C.says("n STEPS (1 to 100): STEP; NONE: another n, beyond 9999.");
        RingDisk x = C.disk(2, "break 100 when step = 100;");
        x.dust(0, 1, 5);
        for (int n : new int[] {0, -1, -100, 101, 102, Integer.MAX_VALUE, Integer.MIN_VALUE}) {
            C.due("steps(" + n + ")", x.steps(n), -1);
            C.due("STEP", x.count(0), 0);
        }
        C.due("steps(100)", x.steps(100), 100);
        C.due("100 and no more", x.has(0, 1), 5);
        C.due("steps(1)", x.steps(1), 101);
        C.due("one more", x.has(0, 0), 5);
    }

    private static RingDisk at(int step, String laws) {
        RingDisk x = C.disk(2, laws);
        x.dust(0, 0, 5);
        for (int i = 0; i < step / 100; i++) {
            x.steps(100);
        }
        if (step % 100 > 0) {
            x.steps(step % 100);
        }
        C.due("STEP", x.count(0), step);
        return x;
    }

    private static void upTo9999() {
        C.says("Then STEP grows by 1. (STEP is 9999 at most.)");
        RingDisk x = at(9899, "gather 1 when step = 9998; seen 1 when step = 9999;");
        x.mark(0, false);
        C.due("steps(100)", x.steps(100), 9999);
        C.due("a LUMP came in STEP 9998", x.look(0, 8), 9998);
        C.due("laws see STEP 9999", x.look(0, 7), 1);
        for (int n : new int[] {1, 2, 50, 100, 101, 0, Integer.MAX_VALUE}) {
            C.due("beyond: steps(" + n + ")", x.steps(n), -1);
        }
        C.due("STEP", x.count(0), 9999);
        x.mark(0, true);
        x.steps(1);
        C.due("100 would be beyond", x.steps(100), -1);
        C.due("no STEP of them is made", x.count(0), 9900);
        C.due("no LUMP", x.count(2), 0);
        C.due("99 are not", x.steps(99), 9999);
        x.mark(0, true);
        C.due("back from there", x.steps(1), 9900);
        C.due("rings are not told again", x.rings(2), false);
    }

    private static void partByPart() {
        C.says("each part from the state as the part ahead left it, within a part as it goes");
        RingDisk x = C.disk(3, "stick 100 when size = 0; break 100 when size = 2 and dust = 6;"
                + "drift 100 when dust = 6 or dust = 9; gather 9 when 1; feed 100 when weight = 9;"
                + "eat 100 when weight = 15; wander 1 when weight = 25;");
        C.gas(x, 100, 10, 9);
        // In RING 2 9 of SIZE 0 stick; in RING 1 6 of SIZE 2 break behind that; both drift; 9 gather in RING 1.
        x.dust(2, 0, 9);
        x.dust(2, 2, 6);
        x.steps(1);
        C.due("a LUMP", x.count(2), 1);
        C.due("9 of SIZE 1, and 6 of SIZE 0", x.made(0, 1), 15);
        C.due("gas", x.look(0, 3), 10);
        C.due("it went on", x.look(0, 1), 0);
        C.due("STEP", x.count(0), 1);
        C.due("in STEP 0", x.look(0, 8), 0);
    }
}
