/** Promises 15 to 19: what is asked behind steps in copies, runs by seeds, and what is put back. */
public final class TriesTest {
    private static final Check C = new Check();

    public static void main(String[] args) {
        asked();
        sure();
        wrong();
        empty();
        runs();
        back();
        C.end("TriesTest");
    }

    /** Dust of ring 2 goes in by LOW or HIGH, gathers in ring 1, and the lump falls later. */
    private static RingDisk told() {
        RingDisk x = C.disk(3, "drift 50 to 100 when ring = 2; gather 80 when ring = 1; wander 3 when 1;"
                + "drift 100 when ring = 0;");
        C.gas(x, 30, 20, 10);
        x.star(40, 0, 101);
        x.dust(2, 0, 100);
        x.dust(0, 4, 5);
        return x;
    }

    private static void asked() {
        RingDisk x = told();
        // By LOW 50, 75, 88 (the gap of 80 is passed then); by HIGH 100 at once.
        int[][] want = {
            // end, n, what, v, answer
            {0, 0, 0, 2, 0}, {1, 0, 0, 2, 0}, {1, 1, 0, 2, 1}, {0, 1, 0, 2, 0}, {0, 0, 0, 1, 1},
            {0, 2, 1, 1, 0}, {0, 3, 1, 1, 1}, {1, 1, 1, 1, 1}, {1, 1, 1, 0, 0}, {1, 3, 1, 0, 1}, {1, 3, 1, 1, 0},
            {0, 0, 2, 0, 1}, {0, 2, 2, 1, 0}, {0, 3, 2, 1, 1}, {1, 1, 2, 2, 0}, {1, 6, 2, 1, 0}, {1, 6, 2, 0, 1},
            {1, 3, 3, 1, 1}, {1, 3, 3, 0, 0}, {1, 3, 3, 2, 0}, {1, 6, 3, 1, 0},
            {0, 0, 4, 0, 1}, {0, 0, 4, 1, 0}, {0, 1, 4, 5, 1}, {0, 1, 4, 6, 0}, {1, 6, 4, 105, 1}, {1, 6, 4, 106, 0},
            {1, 100, 4, 999999, 0}, {1, 100, 2, 999999, 0},
        };
        for (int[] w : want) {
            C.due("asked(" + w[0] + ", " + w[1] + ", " + w[2] + ", " + w[3] + ")",
                    x.asked(w[0], w[1], w[2], w[3]), w[4]);
        }
        C.due("the disk has not gone on", x.count(0), 0);
        C.due("nor its dust", x.has(2, 0), 100);
        C.due("nor the END", x.count(6), 0);
    }

    private static void sure() {
        RingDisk x = told();
        int[][] want = {{0, 0, 2, 0}, {1, 0, 2, 1}, {1, 0, 1, 1}, {0, 0, 1, 2}, {3, 2, 1, 2}, {2, 2, 1, 1},
            {1, 4, 5, 2}, {1, 4, 6, 0}, {3, 1, 0, 1}, {3, 1, 1, 1}, {3, 3, 1, 2}, {100, 4, 105, 1}, {0, 2, 0, 2}};
        for (int[] w : want) {
            C.due("sure(" + w[0] + ", " + w[1] + ", " + w[2] + ")", x.sure(w[0], w[1], w[2]), w[3]);
        }
        x.end(1);
        C.due("whatever END is in force", x.sure(1, 0, 2), 1);
        RingDisk four = C.disk(2, "stick 0 to 100 when size = 0; stick 0 to 100 when size = 1;"
                + "stick 0 to 100 when size = 2; gather 9 when size = 3; stick 0 to 100 when size = 3;");
        four.dust(0, 0, 9);
        C.due("by one END of 16", four.sure(3, 2, 1), 1);
        C.due("by END 7", four.asked(7, 3, 2, 1), 1);
        C.due("by END 15", four.asked(15, 3, 2, 1), 1);
        C.due("by END 3", four.asked(3, 3, 2, 1), 0);
        C.due("none so early", four.sure(2, 2, 1), 0);
    }

    private static void wrong() {
        RingDisk x = told();
        int[][] all = {{-1, 1, 0, 0}, {2, 1, 0, 0}, {0, -1, 0, 0}, {0, 101, 0, 0}, {0, 1, -1, 0}, {0, 1, 5, 0},
            {0, 1, 0, -1}, {0, 1, 0, 3}, {0, 1, 1, -1}, {0, 1, 1, 3}, {0, 1, 3, -1}, {0, 1, 3, 3}, {0, 1, 2, -1},
            {0, 1, 2, 1000000}, {0, 1, 4, -1}, {0, 1, 4, 1000000}};
        for (int[] w : all) {
            C.due("asked of " + w[0] + " " + w[1] + " " + w[2] + " " + w[3], x.asked(w[0], w[1], w[2], w[3]), -1);
            if (w[0] == 0) {
                C.due("sure of " + w[1] + " " + w[2] + " " + w[3], x.sure(w[1], w[2], w[3]), -1);
            }
        }
    }

    private static void empty() {
        RingDisk x = told();
        C.due("now", x.empty(1, 0), 0);
        C.due("HIGH", x.empty(2, 1), 1);
        C.due("LOW: 1 of 2 never goes", x.empty(2, 0), -1);
        C.due("ring 0", x.empty(0, 0), 1);
        C.due("no ring", x.empty(3, 0), -1);
        C.due("no ring", x.empty(-1, 0), -1);
        C.due("no END", x.empty(2, 2), -1);
        C.due("no END", x.empty(2, -1), -1);
        x.steps(2);
        C.due("STEP, not how many", x.empty(2, 1), 3);
        C.due("empty now", x.empty(0, 0), 2);
        C.due("the disk has not gone on", x.count(0), 2);
        RingDisk late = C.disk(2, "drift 100 when step = 199;");
        C.gas(late, 2, 1);
        late.dust(1, 0, 3);
        C.due("200 more", late.empty(1, 0), 200);
        C.law(late, "drift 100 when step = 200;", 0);
        C.due("not by then", late.empty(1, 0), -1);
        late.steps(1);
        C.due("from now on", late.empty(1, 0), 201);
        RingDisk one = C.disk(2, "drift 100 when step = 2;");
        C.gas(one, 2, 1);
        one.dust(1, 0, 1);
        C.due("the last one counts", one.empty(1, 0), 3);
    }

    private static void runs() {
        RingDisk x = C.disk(2, "stick 50 when size = 0 and ring = 0; gather 52 to 99 when size = 1;");
        x.dust(0, 0, 100);
        x.star(0, 10, 101);
        int sum = 0;
        for (int k = 1; k <= 40; k++) {
            long g = ((k - 1) * 1103515245L + 12345) % 2147483648L;
            if (50 + g / 65536 % 21 - 10 >= 52) {
                sum++;
            }
            C.due("SUM of " + k, x.runs(k, 1, -1), sum);
            C.due("ODDS of 1", x.runs(k, 1, 1), sum);
            C.due("ODDS of 0", x.runs(k, 1, 0), k - sum);
            C.due("ODDS of 2", x.runs(k, 1, 2), 0);
        }
        C.due("no step", x.runs(40, 0, 0), 40);
        C.due("60 steps, 30 lumps", x.runs(1, 60, 30), 0);
        x.end(1);
        C.due("by the END in force", x.runs(40, 1, -1), 0);
        int[][] wrong = {{0, 1, 1}, {-1, 1, 1}, {41, 1, 1}, {1, -1, 1}, {1, 61, 1}, {1, 1, -2}, {1, 1, 31}};
        for (int[] w : wrong) {
            C.due("runs(" + w[0] + ", " + w[1] + ", " + w[2] + ")", x.runs(w[0], w[1], w[2]), -1);
        }
        x.end(0);
        x.seed(1);
        x.runs(3, 1, -1);
        x.steps(1);
        C.due("the disk's own SEED stays", x.look(0, 2), 57);
        C.due("lumps there are counted in each run", x.runs(5, 0, -1), 5);
    }

    private static void back() {
        RingDisk x = C.disk(6, "gather 1 when 1; seen 3 when ring = 0; seen 0 to 100 when ring = 1;"
                + "seen 0 when ring = 2; seen 7 when ring = 3; seen 7 when ring = 4;");
        C.due("none", x.back(), 0);
        for (int r = 0; r < 6; r++) {
            x.dust(r, 0, 5);
        }
        x.steps(1);
        C.due("3333 + 2 * 1428", x.back(), 6189);
        x.end(1);
        C.due("3333 + 100 + 2 * 1428", x.back(), 6289);
        C.law(x, "seen 1 when 1; wander 1 when ring = 0;", 0);
        C.due("6 * 10000", x.back(), 60000);
        x.star(1, 0, 101);
        x.steps(1);
        C.due("who is gone is not seen", x.back(), 50000);
        C.law(x, "seen 0 when 1;", 0);
        C.due("not seen", x.back(), 0);
    }
}
