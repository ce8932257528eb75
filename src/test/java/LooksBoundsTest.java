/** Promises 12 to 14, 19 and 25 and the terms that they use: each sentence of the document that names a bound. */
public final class LooksBoundsTest {
    private static final Check C = new Check();
    private static final int LEAST = Integer.MIN_VALUE;
    private static final int MOST = Integer.MAX_VALUE;

    public static void main(String[] args) {
        oneOfFour();
        whatALumpHasTaken();
        allThatWasTold();
        toldAtStep0();
        family();
        lookAtNone();
        lookAtTheGone();
        theLastRing();
        theStepInWhichItCame();
        made();
        partsOfNone();
        seen();
        putBack();
        countOfNone();
        counts();
        familiesOfThoseThere();
        C.end("LooksBoundsTest");
    }

    /** LUMPS in RINGS 0 to 2: of 0 (FALLEN), 1 and 2 (of SIZES 4 and 3 of RING 1), 3 and 4 (of RING 2). */
    private static RingDisk four() {
        RingDisk x = C.disk(3, "gather 1 when 1; wander 1 when ring = 0; eat 10 when ring = 1; seen 50 when 1;");
        x.ring(0, 5, 0, 60);
        x.ring(1, 100, 0, 100);
        x.ring(2, 7, 0, 150);
        x.star(200, 0, 60);
        x.dust(0, 0, 9);
        x.dust(1, 4, 50);
        x.dust(1, 3, 20);
        x.dust(2, 4, 30);
        x.dust(2, 3, 18);
        x.steps(1);
        return x;
    }

    private static void oneOfFour() {
        C.says("A LUMP is THERE (in a RING), or EATEN (by another one), FALLEN (into the STAR), THROWN (out).");
        RingDisk x = four();
        int[] state = {2, 0, 1, 0, 3};
        for (int lump = 0; lump < 5; lump++) {
            C.due("look(" + lump + ", 0)", x.look(lump, 0), state[lump]);
        }
        C.due("LUMPS", x.count(2), 5);
        C.due("THERE", x.count(3), 2);
    }

    private static void whatALumpHasTaken() {
        C.says("Its WEIGHT is what it has taken: dust by the RINGS where it took it, and gas.");
        RingDisk x = four();
        // The first of RING 1 eats 10 of 100 of gas, the second 9 of 90, and is EATEN with them.
        int[] weight = {9, 89, 29, 30, 18};
        int[] gas = {0, 19, 9, 0, 0};
        int[][] dust = {{9, 0, 0}, {0, 70, 0}, {0, 20, 0}, {0, 0, 30}, {0, 0, 18}};
        for (int lump = 0; lump < 5; lump++) {
            C.due("WEIGHT of " + lump, x.look(lump, 2), weight[lump]);
            C.due("gas of " + lump, x.look(lump, 3), gas[lump]);
            for (int ring = 0; ring < 3; ring++) {
                C.due("made(" + lump + ", " + ring + ")", x.made(lump, ring), dust[lump][ring]);
            }
        }
    }

    private static void parts(RingDisk x, int... want) {
        for (int what = 0; what < 5; what++) {
            C.due("parts(" + what + ")", x.parts(what), want[what]);
        }
    }

    private static void allThatWasTold() {
        C.says("All gas and dust that was told (as it was when STEP 0 ended), together, is: in RINGS, in LUMPS that "
                + "are THERE, FALLEN (dust and LUMPS), THROWN.");
        parts(new RingDisk(), 0, 0, 0, 0, 0);
        RingDisk x = four();
        parts(x, 5 + 81 + 7, 89 + 30, 9, 18, 112 + 127);
        RingDisk y = C.disk(2, "drift 50 when 1; gather 5 when step = 1; wander 1 when step = 2;");
        y.star(9, 0, 101);
        y.dust(0, 0, 10);
        parts(y, 10, 0, 0, 0, 10);
        y.steps(1);
        parts(y, 5, 0, 5, 0, 10);
        y.steps(1);
        // 2 of 5 drift ahead of GATHER, for which 3 are too few.
        parts(y, 3, 0, 7, 0, 10);
        RingDisk z = C.disk(2, "drift 50 when step = 0; gather 5 when step = 1; wander 1 when step = 2;");
        z.star(9, 0, 101);
        z.dust(0, 0, 10);
        z.steps(2);
        parts(z, 0, 5, 5, 0, 10);
        z.steps(1);
        parts(z, 0, 0, 10, 0, 10);
    }

    private static void toldAtStep0() {
        C.says("(as it was when STEP 0 ended)");
        RingDisk x = C.disk(2, "");
        x.ring(1, 99999, 0, 1);
        C.due("gas", x.parts(4), 99999);
        x.dust(0, 0, 99999);
        C.due("and dust", x.parts(4), 199998);
        x.dust(0, 0, 1);
        C.due("told again: the last counts", x.parts(4), 100000);
        x.star(99999, 0, 101);
        C.due("PULL does not", x.parts(4), 100000);
        x.mark(0, false);
        x.steps(1);
        x.dust(0, 0, 50);
        x.ring(0, 50, 0, 1);
        C.due("nothing is told at STEP 1", x.parts(4), 100000);
        x.mark(0, true);
        x.dust(0, 0, 50);
        C.due("at STEP 0 again it is", x.parts(4), 100049);
        x.rings(2);
        C.due("new RINGS", x.parts(4), 0);
    }

    /** A LUMP that comes in RING 3 of four and takes all on its way in, as told from RING 0 on. */
    private static void familyIs(int want, int... dust) {
        RingDisk x = C.disk(4, "gather 1 when ring = 3; feed 100 when 1; wander 1 when 1;");
        for (int ring = 0; ring < 4; ring++) {
            x.ring(ring, 9 - ring, 0, 1);
            x.dust(ring, 0, dust[ring]);
        }
        x.steps(4);
        C.due("in RING 0", x.look(0, 1), 0);
        C.due("FAMILY", x.look(0, 4), want);
        for (int ring = 0; ring < 4; ring++) {
            C.due("made", x.made(0, ring), dust[ring]);
        }
    }

    private static void family() {
        C.says("FAMILY of a LUMP: the RING of which it has most dust (of equal ones the least; none if it has "
                + "no dust).");
        familyIs(3, 0, 0, 0, 1);
        familyIs(0, 5, 5, 5, 5);
        familyIs(1, 4, 5, 5, 5);
        familyIs(2, 4, 4, 5, 5);
        familyIs(3, 4, 4, 4, 5);
        familyIs(1, 0, 9, 0, 9);
        familyIs(2, 8, 9, 10, 9);
        familyIs(0, 99999, 99998, 1, 1);
        // Gas is no dust: of more gas than dust it is of the RING of the dust all the same.
        RingDisk x = C.disk(2, "gather 1 when 1; eat 100 when 1; wander 1 when 1;");
        x.ring(0, 900, 0, 1);
        x.ring(1, 800, 0, 1);
        x.dust(1, 0, 1);
        x.steps(2);
        C.due("gas of two RINGS", x.look(0, 3), 1700);
        C.due("FAMILY", x.look(0, 4), 1);
    }

    private static void lookAtNone() {
        C.says("NONE: none such.");
        RingDisk x = new RingDisk();
        for (int lump : new int[] {-1, 0, 1, 29, 30, LEAST, MOST}) {
            for (int what = -1; what <= 10; what++) {
                C.due("no LUMP came: look(" + lump + ", " + what + ")", x.look(lump, what), -1);
            }
        }
        RingDisk y = four();
        for (int lump : new int[] {-1, 5, 6, 29, 30, 31, LEAST, MOST}) {
            for (int what = 0; what < 10; what++) {
                C.due("look(" + lump + ", " + what + ")", y.look(lump, what), -1);
            }
        }
        for (int lump = 0; lump < 5; lump++) {
            for (int what : new int[] {-1, 10, 11, LEAST, MOST}) {
                C.due("look(" + lump + ", " + what + ")", y.look(lump, what), -1);
            }
        }
    }

    private static void lookAtTheGone() {
        C.says("(4, 6: NONE if there is none; 5, 7: NONE if it is not THERE)");
        RingDisk x = four();
        int[][] want = {{0, -1, -1, -1}, {1, 0, -1, 50}, {1, -1, 1, -1}, {2, 1, -1, 50}, {2, -1, -1, -1}};
        for (int lump = 0; lump < 5; lump++) {
            for (int i = 0; i < 4; i++) {
                C.due("look(" + lump + ", " + (4 + i) + ")", x.look(lump, 4 + i), want[lump][i]);
            }
        }
        C.law(x, "", 0);
        C.due("without a seen law", x.look(1, 7), 0);
        C.due("nor that of one that is gone", x.look(0, 7), -1);
    }

    private static void theLastRing() {
        C.says("1: its RING (the last)");
        RingDisk x = four();
        int[] ring = {0, 1, 1, 2, 2};
        x.steps(5);
        for (int lump = 0; lump < 5; lump++) {
            C.due("look(" + lump + ", 1)", x.look(lump, 1), ring[lump]);
        }
        // It goes from RING 3 in to the STAR, a RING a STEP.
        RingDisk y = C.disk(4, "gather 1 when 1; wander 1 when 1;");
        for (int i = 0; i < 4; i++) {
            y.ring(i, 9 - i, 0, 1);
        }
        y.star(10, 0, 101);
        y.dust(3, 0, 5);
        int[] way = {2, 1, 0, 0, 0};
        for (int step = 0; step < 5; step++) {
            y.steps(1);
            C.due("behind STEP " + step, y.look(0, 1), way[step]);
            C.due("behind STEP " + step, y.look(0, 0), step < 3 ? 0 : 2);
        }
    }

    private static void theStepInWhichItCame() {
        C.says("8: the STEP in which it came");
        RingDisk x = C.disk(2, "gather 1 when step = 0 and ring = 0; gather 1 when step = 7;");
        x.dust(0, 0, 1);
        x.dust(1, 0, 1);
        x.steps(7);
        C.due("one", x.count(2), 1);
        C.due("in STEP 0", x.look(0, 8), 0);
        x.steps(1);
        C.due("in STEP 7", x.look(1, 8), 7);
        x.steps(9);
        C.due("it stays so", x.look(0, 8) * 10 + x.look(1, 8), 7);
    }

    private static void made() {
        C.says("How much dust of a RING a LUMP has; NONE: none such.");
        RingDisk x = four();
        for (int lump = 0; lump < 5; lump++) {
            for (int ring : new int[] {-1, 3, 4, 11, 12, LEAST, MOST}) {
                C.due("made(" + lump + ", " + ring + ")", x.made(lump, ring), -1);
            }
        }
        for (int lump : new int[] {-1, 5, 30, LEAST, MOST}) {
            for (int ring = 0; ring < 3; ring++) {
                C.due("made(" + lump + ", " + ring + ")", x.made(lump, ring), -1);
            }
        }
        C.due("none of another RING", x.made(1, 0) + x.made(1, 2), 0);
        RingDisk most = C.disk(12, "gather 1 when 1;");
        most.dust(11, 0, 99999);
        most.steps(1);
        C.due("the last of twelve", most.made(0, 11), 99999);
        C.due("no RING 12", most.made(0, 12), -1);
    }

    private static void partsOfNone() {
        C.says("4: all told; NONE for another what");
        RingDisk x = four();
        for (int what : new int[] {-1, -2, 5, 6, LEAST, MOST}) {
            C.due("parts(" + what + ")", x.parts(what), -1);
        }
    }

    private static void seen() {
        C.says("SEEN: N of the LUMP's seen law (0 without one: not seen).");
        RingDisk x = C.disk(2, "gather 1 when 1;");
        x.dust(1, 0, 5);
        C.due("no LUMP yet", x.look(0, 7), -1);
        x.steps(1);
        String[] laws = {"seen 0 when 1;", "seen 1 when 1;", "seen 100 when 1;", "seen 9 when ring = 0;",
            "seen 9 when weight = 5;", "seen 9 when weight = 6;", ""};
        int[] want = {0, 1, 100, 0, 9, 0, 0};
        for (int i = 0; i < laws.length; i++) {
            C.law(x, laws[i], 0);
            C.due("SEEN by " + laws[i], x.look(0, 7), want[i]);
            C.due("PUT BACK by " + laws[i], x.back(), want[i] == 0 ? 0 : 10000 / want[i]);
        }
        C.law(x, "seen 3 to 4 when 1;", 0);
        C.due("by END 0", x.look(0, 7), 3);
        x.end(1);
        C.due("by END 1", x.look(0, 7), 4);
    }

    private static void putBack() {
        C.says("PUT BACK: the sum over all LUMPS THERE that are seen of 10000 / N, cut.");
        C.due("a new one", new RingDisk().back(), 0);
        RingDisk x = C.disk(12, "gather 1 when 1;");
        for (int ring = 0; ring < 12; ring++) {
            x.dust(ring, 0, 1);
        }
        x.steps(1);
        int[] n = {0, 1, 2, 3, 6, 7, 9, 11, 33, 51, 99, 100};
        for (int each : n) {
            C.law(x, "seen " + each + " when 1;", 0);
            // Each is cut by itself, not the sum of all.
            C.due("12 of " + each, x.back(), each == 0 ? 0 : 12 * (10000 / each));
        }
        C.law(x, "seen 3 when ring < 2; seen 7 when ring = 11; seen 0 when 1;", 0);
        C.due("3333, 3333, 1428", x.back(), 8094);
        C.law(x, "seen 1 when 1; wander 1 when ring < 2;", 0);
        x.star(1, 0, 101);
        x.steps(1);
        C.due("RING 0's fell", x.look(0, 0), 2);
        C.due("who is gone does not count", x.back(), 110000);
    }

    private static void countOfNone() {
        C.says("NONE for another what.");
        for (RingDisk x : new RingDisk[] {new RingDisk(), four()}) {
            for (int what : new int[] {-1, -2, 11, 12, LEAST, MOST}) {
                C.due("count(" + what + ")", x.count(what), -1);
            }
            for (int what = 0; what <= 10; what++) {
                C.due("count(" + what + ") is told", x.count(what) >= 0, true);
            }
        }
    }

    private static void counts() {
        C.says("What 0: STEP, 1: RINGS, 2: LUMPS, 3: those THERE, 4: LAWS, 5: OPEN ones, 6: the END, 7: signs on the "
                + "TAPE, 8: TOLD COUNTS, 9: TRAPS");
        RingDisk x = C.disk(3, "gap 1 to 2 when 1;".repeat(4) + "gather 1 when 1;" + "eat 0 when 1;".repeat(19));
        x.star(0, 0, 1);
        for (int size = 0; size < 5; size++) {
            x.dust(2, size, 1);
        }
        x.end(15);
        x.steps(3);
        for (int i = 0; i < 10; i++) {
            x.told(1, i);
        }
        Check.put(x, " ".repeat(1000));
        int[] want = {3, 3, 5, 1, 24, 4, 15, 1000, 10, 3, 1};
        for (int what = 0; what <= 10; what++) {
            C.due("count(" + what + ")", x.count(what), want[what]);
        }
    }

    private static void familiesOfThoseThere() {
        C.says("10: FAMILIES of LUMPS that are THERE");
        RingDisk x = C.disk(12, "gather 1 when 1; wander 1 when ring = 0;");
        C.due("none", x.count(10), 0);
        for (int ring = 0; ring < 12; ring++) {
            x.dust(ring, 0, 1);
        }
        x.mark(0, false);
        x.steps(1);
        C.due("twelve", x.count(10), 12);
        x.mark(0, true);
        x.star(1, 0, 101);
        x.steps(1);
        C.due("RING 0's fell", x.count(10), 11);
        // Two LUMPS that came in RING 1 in turn, one of which went in.
        RingDisk y = C.disk(2, "gather 5 when step = 0 and size = 4; gather 5 when step = 1; wander 1 when step = 0;");
        y.ring(0, 9, 0, 1);
        y.ring(1, 5, 0, 1);
        y.dust(1, 4, 5);
        y.dust(1, 0, 5);
        y.steps(2);
        C.due("two are THERE", y.count(3), 2);
        C.due("of one FAMILY", y.count(10), 1);
    }
}
