/** The example of README.md; each line that is printed stands behind the call. */
public final class Example {
    public static void main(String[] args) {
        RingDisk x = new RingDisk();
        x.rings(3);                                // RINGS and dust are told while STEP is 0
        x.ring(0, 30, 0, 100);                     // gas, WARM, PERIOD
        x.ring(1, 20, 0, 200);
        x.ring(2, 10, 0, 300);
        x.dust(2, 0, 100);                         // 100 of SIZE 0 in RING 2
        x.star(5, 0, 101);                         // PULL, LUCK, THROW
        put(x, "drift 50 to 100 when 1; gather 60 when ring = 0;");
        System.out.println(x.laws());              // 0: no FAULT
        System.out.println(x.count(5));            // 1: one law is OPEN, so the ENDS are 0 (LOW) and 1 (HIGH)
        System.out.println(x.sure(2, 2, 1));       // 1: in 2 STEPS a LUMP is THERE by some ENDS, not by all
        System.out.println(x.asked(1, 2, 2, 1));   // 1: by END 1 it is
        System.out.println(x.empty(2, 1));         // 1: RING 2 has no dust from STEP 1 on by END 1
        x.mark(0, false);                          // to come back to
        x.end(1);
        System.out.println(x.steps(2));            // 2: the STEP that it is now
        System.out.println(x.look(0, 2));          // 100: WEIGHT of LUMP 0
        System.out.println(x.made(0, 0));          // 100: all its dust was taken in RING 0
        System.out.println(x.parts(4));            // 160: gas and dust that were told, none is lost
        x.mark(0, true);
        System.out.println(x.count(0));            // 0: STEP is as it was; LAWS and END stay
        x.told(0, 2);                              // no LUMP is THERE in 2 STEPS from now,
        System.out.println(x.barred(0, 1));        // 1: so the first OPEN law can't go by its HIGH
        put(x, "drift 101 when 1;");
        int fault = x.laws();                      // kind + 16 * place; the LAWS ahead stay
        System.out.println(fault % 16);            // 4: a NUMBER that is not as told
        System.out.println(fault / 16);            // 6: where it begins on the TAPE
    }

    /** A text comes on the TAPE by 24 signs a call, eight a long, the first one highest. */
    static void put(RingDisk x, String text) {
        for (int at = 0; at < text.length(); at += 24) {
            x.feed(eight(text, at), eight(text, at + 8), eight(text, at + 16));
        }
    }

    static long eight(String text, int from) {
        long signs = 0;
        for (int i = from; i < from + 8; i++) {
            signs = signs << 8 | (i < text.length() ? text.charAt(i) & 255 : 0);
        }
        return signs;
    }
}
