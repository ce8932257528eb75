/** What the tests share: it counts and prints the answers that are not as due. */
final class Check {
    private int asked;
    private int wrong;

    void due(String call, long got, long want) {
        asked++;
        if (got != want) {
            wrong++;
            System.out.println(call + " answered " + got + ", due is " + want);
        }
    }

    void due(String call, boolean got, boolean want) {
        due(call, got ? 1 : 0, want ? 1 : 0);
    }

    /** 24 signs a call, as feed() takes them. */
    static int put(RingDisk x, String text) {
        int signs = x.count(7);
        for (int at = 0; at < text.length(); at += 24) {
            signs = x.feed(bytes(text, at), bytes(text, at + 8), bytes(text, at + 16));
        }
        return signs;
    }

    static long bytes(String text, int from) {
        long all = 0;
        for (int i = from; i < from + 8; i++) {
            all = all << 8 | (i < text.length() ? text.charAt(i) & 255 : 0);
        }
        return all;
    }

    /** A disk at STEP 0 with so many rings and these laws, which must be without a fault. */
    RingDisk disk(int rings, String laws) {
        RingDisk x = new RingDisk();
        due("rings(" + rings + ")", x.rings(rings), true);
        law(x, laws, 0);
        return x;
    }

    void law(RingDisk x, String text, int want) {
        put(x, text);
        due("laws() of \"" + text + "\"", x.laws(), want);
    }

    /** The gas of all rings, warm and periods being as at first. */
    void gas(RingDisk x, int... gas) {
        for (int i = 0; i < gas.length; i++) {
            due("ring " + i, x.ring(i, gas[i], 0, 100 * (i + 1)), true);
        }
    }

    void dustOf(RingDisk x, int ring, int... want) {
        for (int size = 0; size < want.length; size++) {
            due("has(" + ring + ", " + size + ")", x.has(ring, size), want[size]);
        }
    }

    void end(String name) {
        System.out.println(name + ": " + asked + " answers, " + wrong + " wrong");
        if (wrong > 0) {
            System.exit(1);
        }
    }
}
