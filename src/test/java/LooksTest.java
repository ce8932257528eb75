/** Promises 12 to 14: lumps, what they are made of, and where all parts are. */
public final class LooksTest {
    private static final Check C = new Check();

    public static void main(String[] args) {
        look();
        families();
        eaten();
        eatenInARow();
        parts();
        C.end("LooksTest");
    }

    private static void look() {
        RingDisk y = C.disk(3, "gather 10 when step = 3; eat 20 when 1; seen 0 to 25 when ring = 2; wander 5 when 1;");
        C.gas(y, 50, 30, 40);
        y.dust(2, 1, 12);
        y.steps(3);
        C.due("none yet", y.look(0, 0), -1);
        y.steps(2);
        int[] want = {0, 2, 12 + 8 + 6, 14, 2, 0, -1, 0, 3, 2};
        for (int i = 0; i < want.length; i++) {
            C.due("look(0, " + i + ")", y.look(0, i), want[i]);
        }
        C.due("seen by the END", y.end(1) ? y.look(0, 7) : -5, 25);
        for (int what : new int[] {-1, 10, 11, Integer.MIN_VALUE, Integer.MAX_VALUE}) {
            C.due("look(0, " + what + ")", y.look(0, what), -1);
        }
        for (int lump : new int[] {-1, 1, 30, Integer.MIN_VALUE, Integer.MAX_VALUE}) {
            for (int what = 0; what < 10; what++) {
                C.due("look(" + lump + ")", y.look(lump, what), -1);
            }
            C.due("made(" + lump + ")", y.made(lump, 0), -1);
        }
        C.due("made(0, 2)", y.made(0, 2), 12);
        C.due("made(0, 1)", y.made(0, 1), 0);
        C.due("made(0, -1)", y.made(0, -1), -1);
        C.due("made(0, 3)", y.made(0, 3), -1);
    }

    /** A lump that wanders feeds in each ring, and is of the ring of which it has most. */
    private static void families() {
        RingDisk x = C.disk(4, "gather 10 when ring = 3; feed 100 when 1; wander 1 when 1;");
        C.gas(x, 40, 30, 20, 10);
        x.dust(3, 0, 10);
        x.dust(2, 0, 8);
        x.dust(1, 0, 8);
        x.dust(0, 4, 11);
        int[] family = {3, 3, 3, 0};
        int[] weight = {10, 18, 26, 37};
        for (int i = 0; i < 4; i++) {
            x.steps(1);
            C.due("family after " + i, x.look(0, 4), family[i]);
            C.due("weight after " + i, x.look(0, 2), weight[i]);
        }
        int[] made = {11, 8, 8, 10};
        for (int r = 0; r < 4; r++) {
            C.due("made(0, " + r + ")", x.made(0, r), made[r]);
        }
        C.due("families", x.count(10), 1);
        RingDisk even = C.disk(3, "gather 10 when ring = 1; feed 100 when 1; wander 1 when 1;");
        C.gas(even, 30, 20, 10);
        even.dust(1, 0, 10);
        even.dust(0, 0, 10);
        even.steps(2);
        C.due("of equal ones the least", even.look(0, 4), 0);
        RingDisk two = C.disk(3, "gather 5 when 1; eat 50 when 1;");
        C.gas(two, 0, 100, 0);
        two.dust(0, 0, 10);
        two.dust(1, 1, 6);
        two.steps(1);
        C.due("gas of it", two.look(1, 3), 50);
        C.due("gas is of no ring", two.made(1, 1), 6);
        C.due("two families", two.count(10), 2);
        C.due("the second", two.look(1, 4), 1);
    }

    /** Of a lump that was eaten is told what it had taken, whatever the heavier one does then. */
    private static void eaten() {
        RingDisk x = C.disk(4, "gather 10 when step = 0; feed 50 when 1; eat 10 when step = 0;"
                + "wander 1 when 1 < ring; seen 50 when 1;");
        int[] gas = {50, 200, 150, 100};
        int[] period = {60, 100, 250, 700};
        for (int r = 0; r < 4; r++) {
            x.ring(r, gas[r], 0, period[r]);
        }
        x.dust(1, 0, 40);
        x.dust(1, 1, 8);
        x.dust(2, 0, 9);
        x.dust(3, 0, 6);
        x.dust(3, 4, 10);
        x.steps(1);
        lump(x, 0, new int[] {0, 1, 64, 20, 1, 0, -1, 50, 0, 0}, 0, 44, 0, 0);
        lump(x, 1, new int[] {0, 2, 23, 10, 3, 0, -1, 50, 0, 0}, 0, 0, 0, 13);
        int[] gone = {1, 1, 27, 10, 3, -1, 0, -1, 0, 0};
        x.steps(1);
        lump(x, 0, new int[] {0, 1, 93, 30, 1, 0, -1, 50, 0, 0}, 0, 46, 4, 13);
        lump(x, 1, gone, 0, 0, 4, 13);
        x.mark(2, false);
        x.steps(1);
        lump(x, 0, new int[] {0, 1, 94, 30, 1, 0, -1, 50, 0, 0}, 0, 47, 4, 13);
        lump(x, 1, gone, 0, 0, 4, 13);
        x.steps(9);
        x.mark(2, true);
        lump(x, 1, gone, 0, 0, 4, 13);
        C.due("in LUMPS THERE", x.parts(1), 93);
        sum(x, 573);
        C.due("families of those THERE", x.count(10), 1);
        C.due("its family is not THERE", x.asked(0, 0, 3, 3), 0);
        C.due("its ring's lump is the other", x.asked(0, 0, 3, 1), 1);
        C.due("PUT BACK of those THERE", x.back(), 200);
    }

    /** One that had eaten another keeps that, too, when it is eaten. */
    private static void eatenInARow() {
        RingDisk x = C.disk(2, "gather 1 when 1; eat 10 when lumps = 3;");
        C.gas(x, 1000, 0);
        x.dust(0, 4, 50);
        x.dust(0, 3, 50);
        x.dust(0, 1, 300);
        x.steps(1);
        lump(x, 0, new int[] {1, 0, 290, 190, 0, -1, 2, -1, 0, 0}, 100, 0);
        lump(x, 1, new int[] {1, 0, 140, 90, 0, -1, 0, -1, 0, 0}, 50, 0);
        lump(x, 2, new int[] {0, 0, 671, 271, 0, 0, -1, 0, 0, 0}, 400, 0);
        sum(x, 1400);
    }

    private static void lump(RingDisk x, int lump, int[] look, int... made) {
        for (int what = 0; what < look.length; what++) {
            C.due("look(" + lump + ", " + what + ")", x.look(lump, what), look[what]);
        }
        for (int r = 0; r < made.length; r++) {
            C.due("made(" + lump + ", " + r + ")", x.made(lump, r), made[r]);
        }
    }

    private static void sum(RingDisk x, long told) {
        C.due("parts(4)", x.parts(4), told);
        C.due("all of them", x.parts(0) + x.parts(1) + x.parts(2) + x.parts(3), told);
    }

    private static void parts() {
        RingDisk x = C.disk(3, "gather 20 when 1; drift 50 when 1; wander 2 when 1; eat 10 when 1; feed 10 when 1;");
        C.gas(x, 100, 50, 20);
        sum(x, 170);
        x.star(300, 0, 40);
        sum(x, 170);
        for (int r = 0; r < 3; r++) {
            for (int z = 0; z < 5; z++) {
                x.dust(r, z, 11 * z + 7 * r);
            }
        }
        sum(x, 170 + 3 * 110 + 5 * 21);
        for (int i = 0; i < 12; i++) {
            x.steps(1);
            sum(x, 605);
        }
        C.due("some fell", x.parts(2) > 0, true);
        C.due("some were thrown", x.parts(3) > 0, true);
        C.due("parts(-1)", x.parts(-1), -1);
        C.due("parts(5)", x.parts(5), -1);
        C.due("parts(most)", x.parts(Integer.MAX_VALUE), -1);
        RingDisk most = C.disk(12, "gather 1 when step = 1; drift 100 when 1; feed 100 when 1; eat 100 when 1;"
                + "wander 1 when 1;");
        for (int r = 0; r < 12; r++) {
            most.ring(r, 99999 - r, 0, 9999);
            for (int z = 0; z < 5; z++) {
                most.dust(r, z, 99999);
            }
        }
        most.star(99999, 0, 101);
        long told = 12L * 6 * 99999 - 66;
        for (int i = 0; i < 15; i++) {
            sum(most, told);
            most.steps(1);
        }
        sum(most, told);
    }
}
