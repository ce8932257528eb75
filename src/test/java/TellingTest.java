import java.util.NoSuchElementException;

/** Promises 1 to 7 and 11: what is told and what there is then. */
public final class TellingTest {
    private static final Check C = new Check();

    public static void main(String[] args) {
        newObject();
        rings();
        ring();
        dust();
        star();
        seed();
        feed();
        has();
        C.end("TellingTest");
    }

    private static void newObject() {
        RingDisk x = new RingDisk();
        C.due("NONE", RingDisk.NONE, -1);
        int[] counts = {0, 12, 0, 0, 0, 0, 0, 0, 0, 12, 0};
        for (int i = 0; i < counts.length; i++) {
            C.due("new: count(" + i + ")", x.count(i), counts[i]);
        }
        for (int r = 0; r < 12; r++) {
            C.dustOf(x, r, 0, 0, 0, 0, 0, 0, 0, 1);
        }
        for (int i = 0; i < 5; i++) {
            C.due("new: parts(" + i + ")", x.parts(i), 0);
        }
        for (int i = 0; i < 6; i++) {
            C.due("new: mark", x.mark(i, true), false);
        }
        C.due("new: laws() of an empty tape", x.laws(), 0);
        C.due("new: forget()", x.forget(), 0);
    }

    private static void rings() {
        RingDisk x = new RingDisk();
        for (int n : new int[] {-1, 0, 1, 13, Integer.MAX_VALUE, Integer.MIN_VALUE}) {
            C.due("rings(" + n + ")", x.rings(n), false);
            C.due("rings stay", x.count(1), 12);
        }
        C.due("rings(12)", x.rings(12), true);
        C.due("rings(2)", x.rings(2), true);
        C.due("count(1)", x.count(1), 2);
        C.due("ring(2) is none", x.ring(2, 1, 1, 1), false);
        x.ring(1, 7, 8, 9);
        x.dust(1, 3, 5);
        x.star(77, 0, 101);
        C.due("rings(3)", x.rings(3), true);
        C.due("all is as at first", x.parts(4), 0);
        C.dustOf(x, 1, 0, 0, 0, 0, 0, 0, 0, 1);
        C.due("the STAR pulls as before", x.has(0, 7), 0);
        x.steps(1);
        C.due("rings(3) at STEP 1", x.rings(3), false);
        periodsAtFirst();
    }

    /** With lumps in all rings those are locked that have a half or two thirds of their period inside. */
    private static void periodsAtFirst() {
        RingDisk x = C.disk(12, "gather 1 when warm = 0;");
        for (int r = 0; r < 12; r++) {
            x.ring(r, 5, 9, 9999);
            x.dust(r, 0, 3);
        }
        x.rings(12);
        for (int r = 0; r < 12; r++) {
            x.dust(r, 4, 1);
        }
        x.steps(1);
        for (int r = 0; r < 12; r++) {
            C.due("locked at first: " + r, x.look(r, 5), (r + 1) % 2 == 0 || (r + 1) % 3 == 0 ? 1 : 0);
            C.due("of one part it has its family", x.look(r, 4), r);
        }
    }

    /** A period is seen by who is locked: lumps in rings 0 and 1, whose periods are as 2 to 1 at first. */
    private static void ring() {
        RingDisk x = C.disk(2, "gather 1 when warm = 0;");
        C.due("ring(-1)", x.ring(-1, 1, 1, 1), false);
        C.due("ring(2)", x.ring(2, 1, 1, 1), false);
        C.due("gas -1", x.ring(0, -1, 0, 1), false);
        C.due("gas 100000", x.ring(0, 100000, 0, 1), false);
        C.due("warm -1", x.ring(0, 1, -1, 1), false);
        C.due("warm 1000", x.ring(0, 1, 1000, 1), false);
        C.due("period 0", x.ring(0, 1, 0, 0), false);
        C.due("period 10000", x.ring(0, 1, 0, 10000), false);
        C.due("nothing was told", x.has(0, 5), 0);
        C.due("the most", x.ring(0, 99999, 999, 9999), true);
        C.due("gas", x.has(0, 5), 99999);
        C.due("the least", x.ring(0, 0, 0, 1), true);
        C.due("gas", x.has(0, 5), 0);
        x.rings(2);
        x.dust(0, 0, 1);
        x.dust(1, 0, 1);
        x.mark(0, false);
        x.steps(1);
        C.due("200 to 100 is locked", x.look(1, 5), 1);
        x.mark(0, true);
        C.due("ring(1)", x.ring(1, 0, 0, 201), true);
        x.steps(1);
        C.due("201 to 100 is not locked", x.look(1, 5), 0);
        C.due("ring at STEP 1", x.ring(1, 0, 0, 201), false);
        x.mark(0, true);
        x.ring(1, 0, 0, 150);
        x.steps(1);
        C.due("150 to 100 is locked", x.look(1, 5), 1);
        x.mark(0, true);
        x.ring(1, 0, 1, 200);
        x.steps(1);
        C.due("the law asks for warm", x.count(2), 1);
    }

    private static void dust() {
        RingDisk x = new RingDisk();
        x.rings(3);
        C.due("dust(-1)", x.dust(-1, 0, 1), false);
        C.due("dust(3)", x.dust(3, 0, 1), false);
        C.due("size -1", x.dust(0, -1, 1), false);
        C.due("size 5", x.dust(0, 5, 1), false);
        C.due("n -1", x.dust(0, 0, -1), false);
        C.due("n 100000", x.dust(0, 0, 100000), false);
        C.due("none was told", x.parts(0), 0);
        C.due("dust(2, 4, 99999)", x.dust(2, 4, 99999), true);
        C.due("dust(2, 0, 3)", x.dust(2, 0, 3), true);
        C.dustOf(x, 2, 3, 0, 0, 0, 99999, 0, 100002, 1);
        C.due("dust(2, 4, 0)", x.dust(2, 4, 0), true);
        C.dustOf(x, 2, 3, 0, 0, 0, 0, 0, 3, 1);
        x.steps(1);
        C.due("dust at STEP 1", x.dust(0, 0, 1), false);
    }

    private static void star() {
        RingDisk x = C.disk(2, "drift 100 when 1;");
        C.gas(x, 5, 5);
        x.dust(0, 0, 10);
        C.due("pull -1", x.star(-1, 0, 1), false);
        C.due("pull 100000", x.star(100000, 0, 1), false);
        C.due("luck -1", x.star(9, -1, 1), false);
        C.due("luck 21", x.star(9, 21, 1), false);
        C.due("throw 0", x.star(9, 0, 0), false);
        C.due("throw 102", x.star(9, 0, 102), false);
        C.due("no pull yet", x.has(0, 7), 1);
        C.due("the least", x.star(0, 0, 1), true);
        C.due("the most", x.star(99999, 20, 101), true);
        C.due("pulled", x.has(0, 7), 0);
        C.due("as much as the ring", x.star(5, 0, 101), true);
        C.due("equal: it stays", x.has(0, 7), 1);
        x.steps(1);
        C.due("nothing fell", x.parts(2), 0);
        C.due("star at STEP 1", x.star(6, 0, 101), true);
        x.steps(1);
        C.due("it fell", x.parts(2), 10);
    }

    /** SEED 1 draws 16838 first, and SEED 0 draws 0: with LUCK 10 N is 50 + 16838 % 21 - 10 = 57, or 40. */
    private static void seed() {
        RingDisk x = C.disk(2, "stick 50 when size = 0;");
        x.dust(0, 0, 100);
        x.star(0, 10, 101);
        C.due("seed(-1)", x.seed(-1), false);
        C.due("seed(least)", x.seed(Integer.MIN_VALUE), false);
        C.due("seed(most)", x.seed(Integer.MAX_VALUE), true);
        x.mark(0, false);
        C.due("seed(1)", x.seed(1), true);
        x.steps(1);
        C.dustOf(x, 0, 43, 57, 0, 0, 0);
        x.mark(0, true);
        C.due("seed(0)", x.seed(0), true);
        x.steps(1);
        C.dustOf(x, 0, 60, 40, 0, 0, 0);
    }

    private static void feed() {
        RingDisk x = new RingDisk();
        C.due("no sign", x.feed(0, 0, 0), 0);
        C.due("signs that are none", x.feed(0x0001090B1F7F80FFL, -1L, Long.MIN_VALUE), 0);
        C.due("10, 32, 126", x.feed(0x0A00200000007E00L, 0, 0), 3);
        C.due("count(7)", x.count(7), 3);
        C.due("'~' is no token", x.laws(), 1 + 16 * 2);
        C.due("read: it is empty", x.count(7), 0);
        C.due("24 at once", Check.put(x, "stick 1 when 1;stick 2 w"), 24);
        C.due("in order", Check.put(x, "hen 1;"), 30);
        C.due("laws()", x.laws(), 0);
        C.due("count(4)", x.count(4), 2);
        for (int i = 1; i <= 41; i++) {
            C.due("feed " + i, Check.put(x, "                        "), 24 * i);
        }
        C.due("up to 1000", Check.put(x, "            gap 1 when 1;"), 1000);
        C.due("no more", Check.put(x, "gap 1 when 1;"), 1000);
        C.due("'gap ' alone", x.laws(), 1 + 16 * 1000);
    }

    private static boolean throwsNone(RingDisk x, int ring, int size) {
        try {
            x.has(ring, size);
            return false;
        } catch (NoSuchElementException e) {
            return true;
        }
    }

    private static void has() {
        RingDisk x = new RingDisk();
        x.rings(5);
        C.gas(x, 4, 4, 9, 3, 3);
        for (int z = 0; z < 5; z++) {
            x.dust(3, z, 10 + z);
        }
        C.dustOf(x, 3, 10, 11, 12, 13, 14, 3, 60, 0);
        // Of equal ones the own ring comes first, then the ring inside.
        int[] trap = {1, 0, 1, 0, 1};
        for (int r = 0; r < 5; r++) {
            C.due("trap " + r, x.has(r, 7), trap[r]);
        }
        C.due("traps", x.count(9), 3);
        C.due("no ring -1", throwsNone(x, -1, 0), true);
        C.due("no ring 5", throwsNone(x, 5, 0), true);
        C.due("no size -1", throwsNone(x, 0, -1), true);
        C.due("no size 8", throwsNone(x, 0, 8), true);
        C.due("no such at all", throwsNone(x, Integer.MIN_VALUE, Integer.MAX_VALUE), true);
        C.due("size 7", throwsNone(x, 4, 7), false);
    }
}
