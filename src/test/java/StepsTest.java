/** Promise 10: each part of a step, alone and in its order. */
public final class StepsTest {
    private static final Check C = new Check();

    public static void main(String[] args) {
        howFar();
        stick();
        luck();
        breakUp();
        drift();
        driftFromTheBegin();
        heldBack();
        gather();
        thirty();
        feedAndEat();
        wander();
        locked();
        meet();
        throwOut();
        inOrder();
        twelve();
        C.end("StepsTest");
    }

    private static void howFar() {
        RingDisk x = new RingDisk();
        for (int n : new int[] {0, -1, 101, Integer.MAX_VALUE, Integer.MIN_VALUE}) {
            C.due("steps(" + n + ")", x.steps(n), -1);
            C.due("no step", x.count(0), 0);
        }
        C.due("steps(1)", x.steps(1), 1);
        for (int i = 1; i <= 99; i++) {
            C.due("steps(100)", x.steps(100), 1 + 100 * i);
        }
        C.due("beyond 9999", x.steps(99), -1);
        C.due("not a part of it", x.count(0), 9901);
        C.due("up to 9999", x.steps(98), 9999);
        C.due("no further", x.steps(1), -1);
        C.due("tries pass it", x.asked(0, 100, 2, 0), 1);
    }

    private static void stick() {
        RingDisk x = C.disk(2, "stick 50 when ring = 0; stick 100 when size = 3;");
        for (int z = 0; z < 5; z++) {
            x.dust(0, z, 11);
        }
        x.dust(1, 3, 7);
        x.dust(1, 2, 8);
        x.steps(1);
        C.dustOf(x, 0, 6, 11, 11, 11, 16);
        C.dustOf(x, 1, 0, 0, 8, 0, 7);
        // As it goes: from the greatest size down, what has grown is there when the next one is asked.
        RingDisk y = C.disk(2, "stick 100 when size = 1; stick 100 when size = 0 and all = 20 and step = 0;");
        y.dust(0, 0, 10);
        y.dust(0, 1, 10);
        y.steps(2);
        C.dustOf(y, 0, 0, 0, 20, 0, 0);
        RingDisk none = C.disk(2, "stick 100 when ring = 1;");
        none.dust(0, 0, 99999);
        none.steps(1);
        C.dustOf(none, 0, 99999, 0, 0, 0, 0);
        RingDisk one = C.disk(2, "stick 100 when 1; drift 100 when 1;");
        C.gas(one, 2, 1);
        one.dust(1, 0, 1);
        one.steps(1);
        C.dustOf(one, 0, 0, 1, 0, 0, 0);
    }

    /** SEED 0 draws 0, 21468, 9988, 22117, 3498, ..: told by the rule of the document. */
    private static void luck() {
        int[] x = new int[8];
        long g = 0;
        for (int i = 0; i < 8; i++) {
            g = (g * 1103515245L + 12345) % 2147483648L;
            x[i] = (int) (g / 65536);
        }
        C.due("the second", x[1], 21468);
        RingDisk d = C.disk(2, "stick 40 when 1;");
        d.star(0, 20, 101);
        d.dust(1, 0, 1000);
        d.steps(1);
        // Drawn for rings without dust, too: ring 1's SIZE 0 is the eighth one.
        int n = 40 + x[7] % 41 - 20;
        C.dustOf(d, 1, 1000 - 10 * n, 10 * n, 0, 0, 0);
        RingDisk e = C.disk(2, "stick 40 when ring = 1 and size = 0;");
        e.star(0, 20, 101);
        e.dust(1, 0, 1000);
        e.steps(1);
        // Drawn just where a law holds: the first one.
        n = 40 + x[0] % 41 - 20;
        C.dustOf(e, 1, 1000 - 10 * n, 10 * n, 0, 0, 0);
        RingDisk least = C.disk(2, "stick 40 when 1;");
        least.star(0, 1, 101);
        least.dust(1, 0, 1000);
        least.steps(1);
        n = 40 + x[7] % 3 - 1;
        C.dustOf(least, 1, 1000 - 10 * n, 10 * n, 0, 0, 0);
        C.due("which is not what the first one would tell", x[7] % 3 == x[0] % 3, false);
        // Two rings draw eight a step, so ring 0's SIZE 3 gets the ninth one in the second step.
        g = (g * 1103515245L + 12345) % 2147483648L;
        n = (int) (40 + g / 65536 % 41 - 20);
        RingDisk late = C.disk(2, "stick 40 when 1;");
        late.star(0, 20, 101);
        late.dust(0, 3, 1000);
        late.steps(1);
        int left = late.has(0, 3);
        C.due("the first step", left, 1000 - 10 * (40 + x[0] % 41 - 20));
        late.steps(1);
        C.due("the ninth one", late.has(0, 3), left - left * n / 100);
        RingDisk low = C.disk(2, "stick 0 when size = 0;");
        low.star(0, 20, 101);
        low.dust(0, 0, 1000);
        low.steps(1);
        C.due("not below 0", low.has(0, 0), 1000);
        RingDisk high = C.disk(2, "stick 100 when ring = 1 and size = 0;");
        high.star(0, 20, 101);
        high.seed(1);
        high.dust(1, 0, 1000);
        high.steps(1);
        C.due("16838 % 41 is 28: not above 100", high.has(1, 1), 1000);
        RingDisk none = C.disk(2, "stick 50 when size = 0;");
        none.dust(0, 0, 100);
        none.seed(1);
        none.steps(1);
        C.dustOf(none, 0, 50, 50, 0, 0, 0);
        none.star(0, 10, 101);
        none.steps(1);
        // Without luck nothing was drawn, so 16838 is still to come: 57 of 100 of 50 is 28.
        C.dustOf(none, 0, 22, 78, 0, 0, 0);
    }

    private static void breakUp() {
        RingDisk x = C.disk(2, "break 50 when not (size = 3);");
        for (int z = 0; z < 5; z++) {
            x.dust(1, z, 9);
        }
        x.steps(1);
        C.dustOf(x, 1, 21, 5, 5, 9, 5);
        C.dustOf(x, 0, 0, 0, 0, 0, 0);
        RingDisk one = C.disk(2, "break 100 when 1;");
        one.dust(0, 2, 1);
        one.steps(1);
        C.dustOf(one, 0, 1, 0, 0, 0, 0);
    }

    private static void drift() {
        RingDisk x = C.disk(5, "drift 50 when size < 2; drift 100 when size = 4;");
        C.gas(x, 5, 10, 3, 20, 20);
        x.star(6, 0, 101);
        for (int r = 0; r < 5; r++) {
            x.dust(r, 0, 11);
            x.dust(r, 2, 4);
            x.dust(r, 4, 100 + r);
        }
        x.steps(1);
        // 0 goes out to 1, 1 stays, 2 goes out to 3 (20 above 10), 3 and 4 stay.
        C.dustOf(x, 0, 6, 0, 4, 0, 0);
        C.dustOf(x, 1, 16, 0, 4, 0, 201);
        C.dustOf(x, 2, 6, 0, 4, 0, 0);
        C.dustOf(x, 3, 16, 0, 4, 0, 205);
        C.dustOf(x, 4, 11, 0, 4, 0, 104);
        C.due("none fell", x.parts(2), 0);
        x.star(11, 0, 101);
        x.steps(1);
        C.due("the STAR is the place of most gas for 0 now", x.parts(2), 3);
        C.dustOf(x, 0, 3, 0, 4, 0, 0);
        RingDisk even = C.disk(3, "drift 100 when 1;");
        C.gas(even, 8, 3, 8);
        even.dust(1, 0, 5);
        even.steps(1);
        C.due("of equal ones inwards", even.has(0, 0), 5);
        RingDisk out = C.disk(2, "drift 100 when 1;");
        out.dust(1, 0, 5);
        out.dust(0, 0, 6);
        out.steps(5);
        C.due("without gas it stays", out.has(1, 0) + out.has(0, 0), 11);
    }

    private static void driftFromTheBegin() {
        RingDisk x = C.disk(3, "drift 100 when 1;");
        C.gas(x, 3, 2, 1);
        x.dust(2, 1, 40);
        x.dust(1, 1, 7);
        x.steps(1);
        C.due("one ring a step", x.has(0, 1), 7);
        C.due("one ring a step", x.has(1, 1), 40);
        // The laws, too, ask about each ring as it was at the begin.
        RingDisk y = C.disk(3, "drift 100 when all < 20;");
        C.gas(y, 1, 2, 3);
        y.dust(0, 0, 15);
        y.dust(1, 0, 15);
        y.steps(1);
        C.due("as it was", y.has(1, 0), 15);
        C.due("as it was", y.has(2, 0), 15);
    }

    private static void heldBack() {
        RingDisk y = C.disk(4, "gather 50 when ring=1 and size=4;");
        C.gas(y, 4, 8, 6, 4);
        y.dust(1, 4, 50);
        for (int z = 0; z < 5; z++) {
            y.dust(2, z, 10 + z);
            y.dust(0, z, 20 + z);
        }
        y.steps(1);
        C.law(y, "drift 100 when ring=2 or ring=0; gap 2 to 3 when weight=50;", 0);
        y.mark(0, false);
        y.steps(1);
        C.dustOf(y, 2, 0, 0, 12, 13, 14);
        C.dustOf(y, 1, 30, 32, 22, 23, 24);
        y.mark(0, true);
        y.end(1);
        y.steps(1);
        C.dustOf(y, 2, 0, 0, 0, 13, 14);
        y.mark(0, true);
        C.law(y, "drift 100 when ring=2; gap 0 when weight=51; gap 4 when 1; gap 0 when 1;", 0);
        y.steps(1);
        C.dustOf(y, 2, 0, 0, 0, 0, 14);
        y.mark(0, true);
        C.law(y, "drift 100 when ring=2; gap 0 when weight=51;", 0);
        y.steps(1);
        C.dustOf(y, 2, 0, 0, 0, 0, 0);
        // A lump in the ring that dust leaves holds nothing back, nor does one that is gone.
        RingDisk z = C.disk(2, "gather 50 when size = 4 and step = 0; wander 1 when 1; gap 0 when 1;"
                + "drift 100 when step = 1;");
        C.gas(z, 4, 3);
        z.star(5, 0, 101);
        z.dust(0, 4, 50);
        z.dust(1, 0, 9);
        z.dust(0, 0, 3);
        z.steps(1);
        C.due("it is fallen", z.look(0, 0), 2);
        z.steps(1);
        C.due("nobody holds back", z.has(0, 0), 9);
        C.due("into the STAR", z.parts(2), 53);
    }

    private static void gather() {
        RingDisk x = C.disk(3, "gather 20 when size < 2; gather 10 when size = 4;");
        x.dust(0, 0, 20);
        x.dust(0, 1, 19);
        x.dust(0, 4, 10);
        x.dust(1, 1, 30);
        x.dust(1, 3, 99);
        x.dust(2, 0, 1);
        x.steps(1);
        C.due("lumps", x.count(2), 3);
        C.due("0 is of SIZE 4, eaten by 1 of SIZE 0", x.look(0, 0), 1);
        C.due("1", x.made(1, 0), 30);
        C.due("2", x.made(2, 1), 30);
        C.due("2 is in", x.look(2, 1), 1);
        C.dustOf(x, 0, 0, 19, 0, 0, 0);
        C.dustOf(x, 1, 0, 0, 0, 99, 0);
        C.dustOf(x, 2, 1, 0, 0, 0, 0);
        RingDisk none = C.disk(2, "gather 1 when 1;");
        none.steps(3);
        C.due("no dust is no lump", none.count(2), 0);
        RingDisk asGoes = C.disk(3, "gather 1 when lumps < 2;");
        for (int r = 0; r < 3; r++) {
            asGoes.dust(r, 2, 5);
        }
        asGoes.steps(1);
        C.due("lumps are counted as they come", asGoes.count(2), 2);
    }

    private static void thirty() {
        RingDisk x = C.disk(12, "gather 1 when 1;");
        for (int r = 0; r < 12; r++) {
            for (int z = 0; z < 5; z++) {
                x.dust(r, z, 1 + z);
            }
        }
        x.steps(1);
        C.due("lumps", x.count(2), 30);
        C.due("one a ring is there", x.count(3), 6);
        C.dustOf(x, 5, 0, 0, 0, 0, 0);
        C.dustOf(x, 6, 1, 2, 3, 4, 5);
        x.steps(1);
        C.due("no more come", x.count(2), 30);
        C.dustOf(x, 6, 1, 2, 3, 4, 5);
        C.due("look(29, 0)", x.look(29, 1), 5);
        C.due("look(30, 0)", x.look(30, 0), -1);
    }

    private static void feedAndEat() {
        RingDisk x = C.disk(2, "gather 100 when size = 4; feed 50 when weight = 100; eat 30 when 1;");
        C.gas(x, 99, 50);
        x.dust(0, 4, 100);
        for (int z = 0; z < 4; z++) {
            x.dust(0, z, 5 + z);
        }
        x.dust(1, 0, 40);
        x.steps(1);
        // Of 5, 6, 7, 8 it takes 2, 3, 3, 4 although its weight is no more 100 behind the first.
        C.dustOf(x, 0, 3, 3, 4, 4, 0);
        C.due("dust", x.made(0, 0), 112);
        C.due("gas of it", x.look(0, 3), 29);
        C.due("weight", x.look(0, 2), 141);
        C.due("gas of the ring", x.has(0, 5), 70);
        C.due("others' gas", x.has(1, 5), 50);
        C.due("others' dust", x.has(1, 0), 40);
        // The second lump takes of what the first has left.
        RingDisk y = C.disk(2, "gather 1 when size = 2 or size = 3;"
                + "feed 50 when 1; eat 50 when 1;");
        C.gas(y, 100, 0);
        y.dust(0, 2, 10);
        y.dust(0, 3, 10);
        y.dust(0, 0, 100);
        y.star(0, 0, 1);
        y.steps(1);
        C.due("the first", y.look(0, 2), 10 + 50 + 50);
        C.due("the second", y.look(1, 2), 10 + 25 + 25);
        C.due("what is left", y.has(0, 0), 25);
        C.due("what is left", y.has(0, 5), 25);
    }

    private static void wander() {
        RingDisk x = C.disk(4, "gather 10 when 1; wander 3 when step < 8;");
        C.gas(x, 1, 2, 3, 4);
        x.ring(0, 1, 0, 7);
        x.dust(0, 0, 10);
        int[] ring = {0, 0, 1, 1, 1, 2, 2, 2, 2, 2};
        int[] count = {1, 2, 0, 1, 2, 0, 1, 2, 2, 2};
        for (int i = 0; i < ring.length; i++) {
            x.steps(1);
            C.due("ring after " + i, x.look(0, 1), ring[i]);
            C.due("COUNT after " + i, x.look(0, 9), count[i]);
        }
        C.law(x, "wander 1 when 1;", 0);
        x.steps(1);
        C.due("more than N", x.look(0, 1), 3);
        C.due("COUNT", x.look(0, 9), 0);
        x.steps(1);
        C.due("a trap: it stays", x.look(0, 1), 3);
        C.due("COUNT is 0 all the same", x.look(0, 9), 0);
        RingDisk y = C.disk(2, "gather 10 when 1; wander 2 when 1; seen 7 when 1;");
        y.star(1, 0, 101);
        y.dust(0, 0, 10);
        y.steps(2);
        C.due("into the STAR", y.look(0, 0), 2);
        C.due("its last ring", y.look(0, 1), 0);
        C.due("its weight", y.look(0, 2), 10);
        C.due("none is there", y.count(3), 0);
        C.due("FALLEN", y.parts(2), 10);
        C.due("not there: not locked or free", y.look(0, 5), -1);
        C.due("not there: not seen", y.look(0, 7), -1);
        y.steps(1);
        C.due("gone is gone", y.look(0, 9), 0);
    }

    private static void locked() {
        int[][] of = {{100, 200, 1}, {200, 300, 1}, {100, 150, 1}, {100, 300, 0}, {200, 100, 0}, {300, 200, 0},
            {100, 100, 0}, {3, 5, 0}, {1, 2, 1}, {2, 3, 1}, {4999, 9998, 1}, {6666, 9999, 1}, {3, 4, 0}, {1, 1, 0}};
        for (int[] p : of) {
            RingDisk x = C.disk(3, "gather 10 when 1; wander 9 when 1;");
            x.ring(0, 0, 0, p[0]);
            x.ring(2, 0, 0, p[1]);
            x.dust(0, 0, 10);
            x.dust(2, 0, 10);
            x.steps(1);
            C.due(p[0] + " and " + p[1], x.look(1, 5), p[2]);
            C.due("who is locked does not count", x.look(1, 9), 1 - p[2]);
            C.due("the inner one is free", x.look(0, 5), 0);
            C.due("the inner one counts", x.look(0, 9), 1);
        }
        // As it goes: lump 0 falls, and lump 1 is free at once.
        RingDisk y = C.disk(2, "gather 10 when 1; wander 1 when step = 1 and ring = 0; wander 9 when step = 1;");
        y.star(5, 0, 101);
        y.dust(0, 0, 10);
        y.dust(1, 0, 10);
        y.steps(1);
        C.due("locked", y.look(1, 5), 1);
        y.steps(1);
        C.due("fallen", y.look(0, 0), 2);
        C.due("free", y.look(1, 5), 0);
        C.due("free in the same part", y.look(1, 9), 1);
    }

    private static void meet() {
        RingDisk x = C.disk(2, "gather 1 when 1; eat 10 when lumps = 3;");
        C.gas(x, 1000, 0);
        x.dust(0, 4, 50);
        x.dust(0, 3, 50);
        x.dust(0, 1, 300);
        x.steps(1);
        // They eat 100, 90, 81: 150 beats 140, then 381 beats 290.
        C.due("0", x.look(0, 0), 1);
        C.due("0 by", x.look(0, 6), 2);
        C.due("1", x.look(1, 0), 1);
        C.due("1 by", x.look(1, 6), 0);
        C.due("2", x.look(2, 0), 0);
        C.due("2 by none", x.look(2, 6), -1);
        C.due("weight", x.look(2, 2), 671);
        C.due("gas", x.look(2, 3), 271);
        C.due("dust", x.made(2, 0), 400);
        C.due("0 had taken, with what 1 had", x.look(0, 2), 290);
        C.due("1 had taken", x.look(1, 2), 140);
        C.due("only those THERE are parts", x.parts(1), 671);
        C.due("all", x.parts(4), 1400);
        C.due("its ring", x.look(1, 1), 0);
        C.due("not there", x.look(0, 5), -1);
        C.due("not there", x.look(0, 7), -1);
        C.due("there", x.count(3), 1);
        RingDisk even = C.disk(2, "gather 1 when 1;");
        even.dust(1, 4, 5);
        even.dust(1, 3, 5);
        even.steps(1);
        C.due("of equal ones the first", even.look(0, 0), 0);
        C.due("the second", even.look(1, 6), 0);
    }

    private static void throwOut() {
        int[][] of = {{50, 100, 50, 3}, {49, 100, 50, 1}, {100, 50, 50, 3}, {100, 49, 50, 1}, {100, 100, 100, 3},
            {99, 100, 100, 1}, {100, 100, 101, 1}, {1, 100, 1, 3}, {1, 101, 1, 1}};
        for (int[] p : of) {
            RingDisk x = C.disk(2, "gather 1 when 1;");
            x.star(0, 0, p[2]);
            x.dust(0, 4, p[0]);
            x.dust(0, 3, p[1]);
            x.steps(1);
            int other = p[1] > p[0] ? 0 : 1;
            int weight = Math.min(p[0], p[1]);
            C.due(p[0] + ", " + p[1] + ", " + p[2], x.look(other, 0), p[3]);
            C.due("who stays", x.look(1 - other, 0), 0);
            C.due("its weight", x.look(1 - other, 2), p[3] == 3 ? Math.max(p[0], p[1]) : p[0] + p[1]);
            C.due("THROWN", x.parts(3), p[3] == 3 ? weight : 0);
            C.due("the other's weight", x.look(other, 2), weight);
            C.due("all", x.parts(4), p[0] + p[1]);
        }
    }

    /** All parts go through the last of twelve rings, and not beyond. */
    private static void twelve() {
        RingDisk x = C.disk(12, "stick 50 when size = 0; break 50 when size = 3; drift 50 when size = 1;"
                + "gather 8 when size = 4; feed 25 when 1; eat 10 when 1; wander 1 when 1; gap 2 when 1;");
        for (int r = 0; r < 12; r++) {
            x.ring(r, 100 + r, 0, 100);
        }
        x.dust(11, 0, 40);
        x.dust(11, 3, 40);
        x.dust(11, 4, 8);
        x.steps(1);
        // 20 stick, 20 break to SIZE 0: 40, 20 and 20 are there, of which the lump takes a quarter.
        C.dustOf(x, 11, 30, 15, 0, 15, 0, 100);
        C.due("its weight", x.look(0, 2), 8 + 10 + 5 + 5 + 11);
        C.due("the ring inside has more gas", x.look(0, 1), 10);
    }

    /** One step does all parts, each from what the part ahead has left. */
    private static void inOrder() {
        RingDisk x = C.disk(3, "stick 100 when size = 0; break 100 when size = 1; drift 100 when 1;"
                + "gather 50 when 1; feed 100 when 1; eat 10 when 1; wander 1 when ring = 1;");
        C.gas(x, 200, 190, 10);
        x.dust(2, 0, 60);
        x.dust(1, 2, 9);
        x.dust(2, 3, 8);
        x.steps(1);
        // 60 stick, break, drift to 1, gather there; 9 have drifted to 0 ahead of it, and 8 to 1, which it feeds on.
        C.due("a lump", x.count(2), 1);
        C.due("of ring 1", x.made(0, 1), 68);
        C.due("gas", x.look(0, 3), 19);
        C.due("it went by its WAY", x.look(0, 1), 0);
        C.dustOf(x, 0, 0, 0, 9, 0, 0, 200);
        C.due("it came in STEP 0", x.look(0, 8), 0);
        C.due("all", x.parts(4), 477);
    }
}
