/** Promises 8 and 9: the language of laws, its faults, what E tells, and ends. */
public final class LawsTest {
    private static final Check C = new Check();

    public static void main(String[] args) {
        tokens();
        numbers();
        grammar();
        tooMany();
        whatStays();
        values();
        facts();
        ends();
        C.end("LawsTest");
    }

    private static void fault(int kind, String text) {
        C.fault(kind, text);
    }

    private static void fine(String text) {
        C.fine(text);
    }

    private static void tokens() {
        fine("");
        fine(" \n \n");
        fine("stick 1 when 1;");
        fine("stick1when1;");
        fine("\nstick\n1\nwhen\n(\n1\n)\n;\n");
        fine("stick 00007 when not 1 and ring<1;");
        fine("stick 1to 2when 99999;");
        fault(1, "^!");
        fault(1, "stick 1 when 1; ^Stick 1 when 1;");
        fault(1, "^st ick 1 when 1;");
        fault(1, "^stickx 1 when 1;");
        fault(1, "^stic 1 when 1;");
        fault(1, "stick 1 when ^abcdefghi;");
        fault(1, "stick 1 when ^abcdefgh;");
        fault(1, "stick 1 when ^notring;");
        fault(1, "stick 1 when 1 ^andring;");
        fault(1, "stick ^000007 when 1;");
        fault(1, "stick 1 when ^100000;");
        fault(1, "stick 1 when 1 ^> 0;");
        fault(1, "stick 1 when 1^.;");
        fault(1, "stick 1 when 1^");
        fault(1, "stick 1 when 1   ^");
        fault(1, "stick^");
    }

    private static void numbers() {
        for (String kind : new String[] {"stick", "break", "drift", "feed", "eat", "seen"}) {
            fine(kind + " 0 when 1;");
            fine(kind + " 0 to 100 when 1;");
            fault(4, kind + " ^101 when 1;");
            fault(4, kind + " 100 to ^101 when 1;");
        }
        fine("gather 1 to 99999 when 1;");
        fault(4, "gather ^0 when 1;");
        fine("wander 1 to 99 when 1;");
        fault(4, "wander ^0 when 1;");
        fault(4, "wander ^100 when 1;");
        fault(4, "wander 99 to ^100 when 1;");
        fine("gap 0 to 4 when 1;");
        fault(4, "gap ^5 when 1;");
        fault(4, "gap 4 to ^5 when 1;");
        fault(4, "gap 4 to ^3 when 1;");
        fine("gap 4 to 4 when 1;");
    }

    private static void grammar() {
        fault(1, "^1 stick when 1;");
        fault(1, "^when 1;");
        fault(1, "^;");
        fault(1, "stick ^when 1;");
        fault(1, "stick ^-1 when 1;");
        fault(1, "stick 1 ^1;");
        fault(1, "stick 1 to ^when 1;");
        fault(1, "stick 1 to 2 ^to 3 when 1;");
        fault(1, "stick 1 when ^;");
        fault(1, "stick 1 when 1 ^stick 1 when 1;");
        fault(1, "stick 1 when 1;^;");
        fault(1, "stick 1 when 1 ^1;");
        fault(1, "stick 1 when 1 < 2 ^< 3;");
        fault(1, "stick 1 when 1 = 2 ^< 3;");
        fine("stick 1 when 1 < 2 and 2 = 3 or 1;");
        fine("stick 1 when (1 < 2) = (2 < 3);");
        fault(1, "stick 1 when ^-1;");
        fault(1, "stick 1 when 1 + ^- 1;");
        fault(1, "stick 1 when 1 * ^;");
        fault(1, "stick 1 when 1 and ^;");
        fault(1, "stick 1 when ^and 1;");
        fault(1, "stick 1 when not ^;");
        fault(1, "stick 1 when (^);");
        fault(1, "stick 1 when (1^;");
        fault(1, "stick 1 when 1^);");
        fault(1, "stick 1 when (1 and 1 < 2 ^< 3);");
        fault(1, "stick 1 when ^stick;");
        fault(1, "stick 1 when ^when;");
        fault(1, "stick 1 when ^to;");
        fine("stick 1 when ring+size-gas*warm/dust+all-weight*step/lumps;");
        fine("stick 1 when not not not 1;");
        fine("stick 1 when (((1)));");
        fine("stick 1 when (not (1));");
        fine("stick 1 when (((1))) + (((1))) + not (not 1);");
    }

    private static void tooMany() {
        fault(5, "stick 1 when ((((^1))));");
        fault(5, "stick 1 when not not not not ^1;");
        fault(5, "stick 1 when not(not(^not 1));");
        fault(5, "stick 1 when (not (not ^ring));");
        fault(5, "stick 1 when not not not not ^not 1;");
        fault(5, "stick 1 when ((((^(1)))));");
        fault(1, "stick 1 when ((((^)))));");
        fault(1, "stick 1 when not not not not ^;");
        fault(1, "stick 1 when not not not not ^and;");
        fault(1, "stick 1 when not not not not ^abcdefghi;");
        fault(1, "stick 1 when not not not not ^123456;");
        String all = "gap 1 when 1;".repeat(24);
        fine(all);
        fault(5, all + "^gap 1 when 1;");
        fault(5, all + "^gap");
        fault(1, all + "^gape 1 when 1;");
        fault(1, all + "^1");
        String open = "gap 1 to 2 when 1;".repeat(4);
        fine(open + "gap 3 when 1; gap 3 to 3 when 1;");
        fault(5, open + "gap 3 to ^4 when 1;");
        fault(4, open + "gap 3 to ^5 when 1;");
        fault(4, open + "gap 3 to ^2 when 1;");
        fault(1, open + "gap 3 to ^ring when 1;");
        // The law's number is looked at ahead of what comes behind it.
        fault(4, "gap ^5 when 1 1");
    }

    private static void whatStays() {
        RingDisk x = C.disk(2, "gap 1 to 2 when 1; gap 1 when 1;");
        C.due("count(4)", x.count(4), 2);
        C.due("count(5)", x.count(5), 1);
        C.due("end(1)", x.end(1), true);
        C.law(x, "gap 1 when 1; gap", 1 + 16 * 17);
        C.due("a fault: laws stay", x.count(4), 2);
        C.due("a fault: open ones stay", x.count(5), 1);
        C.due("a fault: the END stays", x.count(6), 1);
        C.due("a fault: the tape is empty", x.count(7), 0);
        C.law(x, "gap 1 to 2 when 1;", 0);
        C.due("in their place", x.count(4), 1);
        C.due("the END is 0 then", x.count(6), 0);
        x.end(1);
        C.law(x, "", 0);
        C.due("no laws", x.count(4), 0);
        C.due("no open ones", x.count(5), 0);
        C.due("END", x.count(6), 0);
        // However much was read before, there is room for the next.
        for (int i = 0; i < 60; i++) {
            C.law(x, "gap 1 when " + "1 + ".repeat(20) + "1;", 0);
        }
        C.law(x, "break 0 when 0;", 0);
        x.dust(1, 1, 10);
        x.mark(0, false);
        for (int i = 0; i < 30; i++) {
            C.law(x, "break 0 when " + "0 + ".repeat(20) + "0; break 100 when 1;", 0);
            x.mark(0, true);
            x.steps(1);
            C.due("read " + i, x.has(1, 0), 10);
        }
        x.mark(0, true);
        // Nor does anything of it come behind the last law.
        C.law(x, "break 100 when not 1;", 0);
        C.law(x, "break 100 when not 1;", 0);
        C.law(x, "break 100 when 1;", 0);
        x.steps(1);
        C.due("it holds", x.has(1, 0), 10);
        x.mark(0, true);
        C.law(x, "", 0);
        // A text with a fault leaves nothing of it behind: ring 0's dust does not stick, nor break.
        x.dust(0, 1, 100);
        C.law(x, "break 100 when 1; stick 100 when 1; x", 1 + 16 * 36);
        x.steps(1);
        C.dustOf(x, 0, 0, 100, 0, 0, 0);
    }

    /** Whether E holds for dust of SIZE 1 in RING 1 of three, with gas 30, warm 7, dust 20, all 50, at STEP 0. */
    private static void holds(String e, boolean want) {
        RingDisk x = C.disk(3, "break 100 when " + e + ";");
        x.ring(1, 30, 7, 5);
        x.dust(1, 1, 20);
        x.dust(1, 0, 30);
        x.dust(2, 1, 1);
        x.steps(1);
        C.due("E: " + e, x.has(1, 1) == 0, want);
    }

    private static void values() {
        String[] hold = {"1", "99999", "1 and 2", "0 or 3", "not 0", "not not 5", "not 5 = 0", "2 < 3", "3 = 3",
            "1 - 2", "7 / 2 = 3", "(0 - 7) / 2 = 0 - 3", "5 / 0 = 0", "1 - 2 - 3 = 0 - 4", "12 / 2 / 3 = 2",
            "7 / 2 * 2 = 6", "2 * 7 / 2 = 7", "1 + 2 * 3 = 7", "(1 + 2) * 3 = 9", "0 and 0 or 1",
            "(1 < 2) = 1", "(3 = 3) = 1",
            "(2 < 1) = 0", "(5 and 6) = 1", "(0 or 6) = 1", "not 2 + 1", "not 0 * 5 = 5",
            "99999 * 99999 / 10000 = 14098 * 10 + 6",
            "0 - 65536 * 32768 < 0", "65536 * 32768 < 0", "65536 * 65536 = 0",
            "65536 * 32768 / (0 - 1) = 65536 * 32768", "65536 * 32768 - 1 = 65535 * 32768 + 32767",
            "1 or 1 and 1", "0 - 1 < 0", "00012 = 12"};
        for (String e : hold) {
            holds(e, true);
        }
        String[] fail = {"0", "1 and 0", "0 or 0", "not 1", "not 99999", "2 < 2", "3 < 2", "2 = 3", "1 - 1",
            "1 / 2", "1 or 1 and 0", "1 / 0", "0 / 0", "not (0 or 1)", "5 and 6 = 1", "0 * 5", "65536 * 65536",
            "1 < (0 - 1)"};
        for (String e : fail) {
            holds(e, false);
        }
    }

    private static void facts() {
        holds("ring = 1", true);
        holds("size = 1", true);
        holds("gas = 30", true);
        holds("warm = 7", true);
        holds("dust = 20", true);
        holds("all = 50", true);
        holds("weight = 0", true);
        holds("step = 0", true);
        holds("lumps = 0", true);
        RingDisk x = C.disk(3, "gather 9 when 1; feed 1 when 0;"
                + "seen 1 when size; seen 2 when dust; seen 3 when not(ring=1); seen 4 when not(gas=30);"
                + "seen 5 when not(warm=7); seen 6 when not(all=8); seen 7 when not(weight=60);"
                + "seen 8 when not(step=1); seen 9 when not(lumps=2); seen 10 when 1;");
        x.ring(1, 30, 7, 1);
        x.dust(0, 3, 10);
        x.dust(1, 2, 60);
        x.dust(1, 0, 8);
        x.steps(1);
        C.due("facts of a lump", x.look(1, 7), 10);
        C.due("facts of another one", x.look(0, 7), 3);
        notAskedAbout();
        // The first of its kind that holds is asked, whatever stands between.
        C.law(x, "seen 5 when 0; gap 1 when 1; seen 6 when ring; feed 9 when 1; seen 7 when 1;", 0);
        C.due("the second", x.look(1, 7), 6);
        C.due("the third", x.look(0, 7), 7);
        C.law(x, "gap 1 when 1;", 0);
        C.due("none", x.look(0, 7), 0);
    }

    /** Dust that is asked about behind a lump has no weight, a lump behind dust no size. */
    private static void notAskedAbout() {
        RingDisk x = C.disk(2, "gather 9 when size = 4; feed 50 when size = 0 and dust = 0 and weight = 9;"
                + "stick 100 when weight or lumps and step = 1 and not weight = 0; break 100 when weight;");
        x.dust(1, 4, 9);
        x.dust(1, 3, 2);
        x.dust(1, 2, 1);
        x.steps(1);
        C.due("fed", x.look(0, 2), 10);
        x.steps(1);
        C.dustOf(x, 1, 0, 0, 1, 1, 0);
        C.law(x, "break 100 when weight = 0;", 0);
        x.steps(1);
        C.dustOf(x, 1, 2, 0, 0, 0, 0);
    }

    private static void ends() {
        RingDisk x = C.disk(2, "gather 1 when 1; seen 10 to 20 when ring = 0; feed 5 when 1; seen 30 to 40 when 1;"
                + "eat 1 to 1 when 1;");
        x.dust(0, 0, 9);
        x.dust(1, 0, 9);
        x.steps(1);
        C.due("open", x.count(5), 2);
        for (int bits = 0; bits < 4; bits++) {
            C.due("end(" + bits + ")", x.end(bits), true);
            C.due("count(6)", x.count(6), bits);
            C.due("the first one is the lowest bit", x.look(0, 7), (bits & 1) == 0 ? 10 : 20);
            C.due("the second", x.look(1, 7), (bits & 2) == 0 ? 30 : 40);
        }
        for (int bits : new int[] {-1, 4, 5, 16, Integer.MAX_VALUE, Integer.MIN_VALUE}) {
            C.due("end(" + bits + ")", x.end(bits), false);
            C.due("it stays", x.count(6), 3);
        }
        RingDisk none = new RingDisk();
        C.due("end(0) without laws", none.end(0), true);
        C.due("end(1) without laws", none.end(1), false);
    }
}
