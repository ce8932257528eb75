/** Promises 8 and 9 and part 2 of the terms: each sentence of the document that names a bound. */
public final class LawsBoundsTest {
    private static final Check C = new Check();
    private static final String[] KINDS = {"stick", "break", "drift", "gather", "feed", "eat", "wander", "gap", "seen"};
    private static final int[] LEAST_N = {0, 0, 0, 1, 0, 0, 1, 0, 0};
    private static final int[] MOST_N = {100, 100, 100, 99999, 100, 100, 99, 4, 100};
    /** The most and the least number that there is. */
    private static final String MOST = "(65535 * 32768 + 32767)";
    private static final String LEAST = "(0 - 65535 * 32768 - 32768)";

    public static void main(String[] args) {
        atMost1000();
        theTapeIsTaken();
        asLongAsCanBe();
        blanks();
        words();
        numbers();
        signs();
        anyNumberOfLaws();
        whatMayBeLeftOut();
        rangesOfN();
        highAndLow();
        twentyFour();
        fourOpen();
        within4();
        within4AtOtherTokens();
        placeOfAFault();
        theFirstAndTheLeast();
        endsAsBits();
        end0UntilTold();
        inPlaceOfThoseAhead();
        roundIn32Bits();
        division();
        oneOrZero();
        fromTheLeft();
        whatIsAskedAbout();
        whatIsNotAskedAbout();
        theFirstThatHolds();
        faultsLeaveLaws();
        whichEnds();
        C.end("LawsBoundsTest");
    }

    /** Whether E holds: dust of SIZE 1 in RING 1 breaks just then. */
    private static boolean holds(String e) {
        RingDisk x = C.disk(2, "break 100 when " + e + ";");
        x.dust(1, 1, 20);
        x.steps(1);
        return x.has(1, 0) == 20;
    }

    private static void hold(boolean want, String... all) {
        for (String e : all) {
            C.due("E: " + e, holds(e), want);
        }
    }

    private static void atMost1000() {
        C.says("The TAPE has at most 1,000 signs");
        String begin = "break 100 when 1";
        // 16 signs, 489 times "+1", "=490" and ";": 999 signs, and a blank.
        String text = begin + "+1".repeat(489) + "=490; ";
        C.due("signs", text.length(), 1000);
        RingDisk x = C.disk(2, text);
        x.dust(1, 1, 20);
        x.steps(1);
        C.due("all of it is read", x.has(1, 0), 20);
        RingDisk y = new RingDisk();
        Check.put(y, begin + "+1".repeat(491) + "; ;");
        C.due("1000 of 1001", y.count(7), 1000);
        C.due("the 1001st is not read", y.laws(), 0);
        RingDisk z = new RingDisk();
        Check.put(z, begin + "+1".repeat(492) + ";");
        C.due("the semicolon is the 1001st", z.laws(), 1 + 16 * 1000);
    }

    private static void theTapeIsTaken() {
        C.says("what reads it takes it: it is empty then");
        RingDisk x = new RingDisk();
        for (String text : new String[] {"gap 1 when 1;", "gap 1 when 1", "!", " ", ""}) {
            Check.put(x, text);
            C.due("signs ahead", x.count(7), text.length());
            x.laws();
            C.due("it is empty", x.count(7), 0);
        }
        C.due("an empty one is no LAWS", x.laws() * 10 + x.count(4), 0);
        // What a fault has left unread is not read later.
        Check.put(x, "gap 5 when 1; gap 1 when 1;");
        C.due("fault", x.laws(), 4 + 16 * 4);
        C.due("nothing is left", x.laws() * 10 + x.count(4), 0);
    }

    private static void asLongAsCanBe() {
        C.says("TOKENS, each as long as can be");
        C.fault(1, "stick 1 when ^ringsize;");
        C.fault(1, "stick 1 when ^notring;");
        C.fault(1, "stick 1 ^whenring;");
        C.fault(1, "stick 1 ^towhen 1;");
        C.fault(1, "^sticks 1 when 1;");
        C.fault(4, "stick ^1001 when 1;");
        C.fault(1, "stick 1 ^001 when 1;");
        C.fault(1, "stick 1 when 12 ^34;");
        C.fine("stick 1 when not ring;");
        C.fine("stick 100to 100when 1;");
        C.fine("stick1to2when12and34or ring<size;");
        C.fine("eat1when1;eat1when1;");
    }

    private static void blanks() {
        C.says("blanks (10, 32) between where one likes");
        C.fine("stick1when(ring+1)*2<3;");
        C.fine("\n \nstick\n 1\n\nwhen (\nring\n+ 1 ) *\n2 <\n3 ; \n");
        C.fault(1, "^st\nick 1 when 1;");
        C.fault(1, "stick 1 when ^ri ng;");
        C.fault(1, "stick 1 ^0 when 1;");
    }

    private static void words() {
        C.says("WORDS (letters a .. z, 8 at most)");
        for (char sign : new char[] {'`', '{', '@', 'A', 'Z', '[', '_'}) {
            C.fault(1, "^" + sign + "stick 1 when 1;");
            C.fault(1, "stick 1 when 1; ^" + sign);
            C.fault(1, "stick 1 when 1 ^" + sign + ";");
            C.fault(1, "stick 1 when ring^" + sign + ";");
        }
        C.fault(1, "^Stick 1 when 1;");
        C.fault(1, "stick 1 ^When 1;");
        C.fault(1, "stick 1 when ^Ring;");
        for (String word : new String[] {"a", "z", "abcdefgh", "abcdefghi", "weightss", "weightsss", "stickbre"}) {
            C.fault(1, "^" + word + " 1 when 1;");
            C.fault(1, "stick 1 when ^" + word + ";");
            C.fault(1, "stick 1 ^" + word + " 1;");
        }
        hold(true, "weight = 0", "lumps = 0", "ring = 1");
    }

    private static void numbers() {
        C.says("NUMBERS (1 to 5 digits; a letter may stand right behind)");
        C.fine("gather 1 when 0;");
        C.fine("gather 00001 when 00000;");
        C.fine("gather 99999 when 99999;");
        C.fine("gather 1to 2when 1and 1or 1;");
        C.fault(1, "gather ^000001 when 1;");
        C.fault(1, "gather ^100000 when 1;");
        C.fault(1, "gather 1 to ^100000 when 1;");
        C.fault(1, "gather 1 when ^000000;");
        C.fault(1, "gather 1 when ^" + "1".repeat(400) + ";");
        C.fault(1, "gather 1 when 1^:;");
        C.fault(1, "gather 1 when 1 ^ring;");
        C.fault(1, "gather 1 when 1 ^1;");
        hold(true, "99999 = 99998 + 1", "00009 = 9", "0 = 00000", "10000 = 9999 + 1");
    }

    private static void signs() {
        C.says("the signs ( ) < = + - * / and the semicolon. All else (a longer WORD or NUMBER, too, at its first "
                + "sign) is none.");
        for (int sign = 33; sign < 127; sign++) {
            boolean isSign = "()<=+-*/;".indexOf(sign) >= 0;
            if (!isSign && !Character.isLetterOrDigit(sign)) {
                C.fault(1, "stick 1 when 1 ^" + (char) sign + " 1;");
                C.fault(1, "stick 1 when 1; ^" + (char) sign);
            }
        }
        for (String sign : new String[] {"<", "=", "+", "-", "*", "/"}) {
            C.fine("stick 1 when 1" + sign + "1;");
            C.fault(1, "stick 1 when ^" + sign + "1;");
            C.fault(1, "stick 1 when 1" + sign + "^;");
            C.fault(1, "stick 1 when 1" + sign + "^" + sign + "1;");
            C.fault(1, "^" + sign);
        }
        C.fault(1, "stick 1 when 1 <^= 1;");
        C.fault(1, "^(stick 1 when 1);");
        C.fault(1, "^)");
        // A longer one is none at its first sign, not at the ninth or the sixth.
        C.fault(1, "stick 1 when (((^abcdefghij)));");
        C.fault(1, "stick 1 when (((^1234567)));");
    }

    private static void anyNumberOfLaws() {
        C.says("LAWS: any number of KIND N [ to N ] when E ;");
        for (int n = 0; n <= 24; n++) {
            RingDisk x = C.disk(2, "gap 1 when 1;".repeat(n));
            C.due("LAWS", x.count(4), n);
            C.due("OPEN", x.count(5), 0);
        }
        for (String kind : KINDS) {
            C.fine(kind + " 1 when 1;");
            C.fault(1, kind + "^");
            C.fault(1, kind + " ^when 1;");
            C.fault(1, kind + " 1^");
            C.fault(1, kind + " 1 when^");
            C.fault(1, kind + " 1 when 1^");
            C.fault(1, kind + " 1 when 1 ^" + kind + " 1 when 1;");
        }
        for (String none : new String[] {"when", "to", "and", "or", "not", "ring", "lumps", "eats", "ea"}) {
            C.fault(1, "^" + none + " 1 when 1;");
        }
    }

    private static void whatMayBeLeftOut() {
        C.says("TEST: SUM [ < SUM or = SUM ]");
        for (String sign : new String[] {"<", "="}) {
            C.fine("stick 1 when 1 " + sign + " 1;");
            C.fault(1, "stick 1 when 1 " + sign + " 1 ^< 1;");
            C.fault(1, "stick 1 when 1 " + sign + " 1 ^= 1;");
            C.fault(1, "stick 1 when (1 " + sign + " 1 ^= 1);");
            C.fine("stick 1 when (1 " + sign + " 1) = 1 and 1 = 1;");
        }
        C.says("KIND N [ to N ] when E ;");
        C.fault(1, "stick 1 to^");
        C.fault(1, "stick 1 to ^when 1;");
        C.fault(1, "stick 1 to 2 ^to 3 when 1;");
        C.fault(1, "stick ^to 2 when 1;");
        C.fault(1, "stick 1 to 2 ^1 when 1;");
        C.fault(1, "stick 1 when 1 ^when 1;");
        C.fault(1, "stick 1 when 1;^;");
        C.says("{ } are for \"any more\"");
        C.fine("stick 1 when 1" + " and 1 or 1".repeat(40) + ";");
        C.fine("stick 1 when 1" + "+1-1".repeat(100) + ";");
        C.fine("stick 1 when 1" + "*1/1".repeat(100) + ";");
        C.fault(1, "stick 1 when 1 and 1 or^");
        C.fault(1, "stick 1 when 1 and ^or 1;");
    }

    private static void rangesOfN() {
        C.says("N of stick, break, drift, feed, eat, seen: 0 to 100; of gather 1 to 99999; of wander 1 to 99; "
                + "of gap 0 to 4.");
        for (int i = 0; i < KINDS.length; i++) {
            String kind = KINDS[i];
            int least = LEAST_N[i];
            int most = MOST_N[i];
            C.fine(kind + " " + least + " when 1;");
            C.fine(kind + " " + most + " when 1;");
            C.fine(kind + " " + least + " to " + most + " when 1;");
            C.fine(kind + " " + most + " to " + most + " when 1;");
            if (least > 0) {
                C.fault(4, kind + " ^" + (least - 1) + " when 1;");
                C.fault(4, kind + " ^0 to 1 when 1;");
                C.fault(4, kind + " 1 to ^0 when 1;");
            }
            if (most < 99999) {
                C.fault(4, kind + " ^" + (most + 1) + " when 1;");
                C.fault(4, kind + " ^99999 when 1;");
                C.fault(4, kind + " " + least + " to ^" + (most + 1) + " when 1;");
                C.fault(4, kind + " " + most + " to ^" + (most + 1) + " when 1;");
            }
        }
    }

    private static void highAndLow() {
        C.says("The second N is the law's HIGH, not below the first one, its LOW; without it both are N.");
        for (int i = 0; i < KINDS.length; i++) {
            int most = MOST_N[i];
            C.fault(4, KINDS[i] + " " + most + " to ^" + (most - 1) + " when 1;");
            open(KINDS[i] + " " + most + " to " + most + " when 1;", 0);
            open(KINDS[i] + " " + (most - 1) + " to " + most + " when 1;", 1);
            open(KINDS[i] + " " + most + " when 1;", 0);
        }
        C.fault(4, "stick 1 to ^0 when 1;");
        open("stick 0 to 0 when 1;", 0);
        RingDisk x = C.disk(2, "gather 1 when 1; seen 7 to 7 when 1;");
        x.dust(0, 0, 1);
        x.steps(1);
        C.due("both are N", x.look(0, 7), 7);
        C.due("no HIGH above LOW: no END 1", x.end(1), false);
    }

    private static void open(String text, int want) {
        RingDisk x = C.disk(2, text);
        C.due("OPEN ones of " + text, x.count(5), want);
        C.due("LAWS of " + text, x.count(4), 1);
    }

    private static void twentyFour() {
        C.says("24 laws at most");
        String all = "gap 1 when 1;".repeat(24);
        RingDisk x = C.disk(2, all);
        C.due("24 LAWS", x.count(4), 24);
        C.says("the KIND of a 25th law");
        for (String kind : KINDS) {
            C.fault(5, all + " ^" + kind + " 1 when 1;");
            C.fault(5, all + "^" + kind);
            C.fault(5, all + "^" + kind + " 99999999 !");
        }
        C.fault(5, all + "^gap 1 when 1;" + "gap 1 when 1;");
        C.fault(1, all + "^;");
        C.fault(1, all + "^when");
        C.fault(1, all + "^abcdefghi");
        C.fault(1, all + "^24");
        C.fine(all + " \n ");
        // The 24th law is the last that is asked.
        RingDisk y = C.disk(2, "break 0 when 0;".repeat(23) + "break 100 when 1;");
        y.dust(1, 1, 20);
        y.steps(1);
        C.due("it holds", y.has(1, 0), 20);
    }

    private static void fourOpen() {
        C.says("4 with a HIGH above LOW (OPEN ones)");
        String four = "gap 1 to 2 when 1;".repeat(4);
        RingDisk x = C.disk(2, four);
        C.due("OPEN", x.count(5), 4);
        C.due("END 15", x.end(15), true);
        C.due("END 16", x.end(16), false);
        RingDisk y = C.disk(2, four + "gap 1 to 1 when 1;".repeat(10) + "gap 4 when 1;".repeat(10));
        C.due("LAWS", y.count(4), 24);
        C.due("OPEN", y.count(5), 4);
        C.says("the second NUMBER that would make a fifth OPEN one");
        for (int i = 0; i < KINDS.length; i++) {
            int most = MOST_N[i];
            C.fault(5, four + KINDS[i] + " " + (most - 1) + " to ^" + most + " when 1;");
            C.fine(four + KINDS[i] + " " + most + " to " + most + " when 1;");
            C.fault(4, four + KINDS[i] + " " + most + " to ^" + (most - 1) + " when 1;");
        }
        C.fault(4, four + "stick 1 to ^101 when 1;");
        C.fault(1, four + "stick 1 to ^000002 when 1;");
        C.fault(1, four + "stick 1 to ^when 1;");
        C.fault(4, four + "stick ^101 to 102 when 1;");
        C.fault(5, four + "stick 1 to ^2");
        C.fault(5, "gap 3 when 1; " + four + "gap 3 to 3 when 1; eat 0 to ^1 when !");
    }

    /** A PART within one not or ( ) for each bit, the lowest being the innermost. */
    private static String within(String part, int bits, int deep) {
        String text = part;
        for (int i = 0; i < deep; i++) {
            text = (bits >> i & 1) == 0 ? "(" + text + ")" : "not " + text;
        }
        return text;
    }

    private static void within4() {
        C.says("no PART lies within 4 of not and ( )");
        for (int deep = 0; deep <= 3; deep++) {
            for (int bits = 0; bits < 1 << deep; bits++) {
                C.fine("stick 1 when " + within("ring", bits, deep) + ";");
                C.fine("stick 1 when 1 < " + within("1", bits, deep) + " * 2;");
            }
        }
        C.says("not, or a PART, within 4 others");
        for (int bits = 0; bits < 16; bits++) {
            for (String part : new String[] {"1", "99999", "ring", "lumps", "not 1", "(1)", "(((1)))", "not not 1"}) {
                C.fault(5, "stick 1 when " + within("^" + part, bits, 4) + ";");
                C.fault(5, "stick 1 when 1 + 2 * " + within("^" + part, bits, 4) + ";");
            }
        }
        // Those that are closed ahead do not count, and those behind do.
        C.fine("stick 1 when (((1))) + (((1))) + (((1)));");
        C.fine("stick 1 when (((1) + (1)) + ((1) + (1)));");
        C.fine("stick 1 when not not not 1 and not not not 1 = not (not 1);");
        C.fine("stick 1 when (not 1 + not 1 + not 1 + not 1 + not 1);");
        C.fault(5, "stick 1 when (((1))) + ((((^1))));");
        C.fault(5, "stick 1 when (((1) + ((^1))));");
        C.fault(5, "stick 1 when ((((^1 + 1))));");
        C.fault(5, "stick 1 when (((1 + (^1))));");
    }

    private static void within4AtOtherTokens() {
        C.says("of the first token from the left that is wrong the least");
        for (int bits = 0; bits < 16; bits++) {
            for (String none : new String[] {")", ";", "+", "<", "and", "when", "stick", "abcdefghi", "123456", "!"}) {
                C.fault(1, "stick 1 when " + within("^" + none, bits, 4) + ";");
            }
        }
        C.fault(1, "stick 1 when ((((^");
        C.fault(1, "stick 1 when not not not not^");
        C.fault(1, "stick 1 when (((1 ^2)));");
        C.fault(1, "stick 1 when (((1))^;");
        C.fault(1, "stick 1 when (((1)))^);");
    }

    private static void placeOfAFault() {
        C.says("kind + 16 * the place (from 0) of a token, the end being one at the text's length");
        C.fault(1, "^!");
        C.fault(1, "   ^!");
        C.fault(1, "\n\n^!");
        C.fault(1, "stick^");
        C.fault(1, "stick   ^");
        C.fault(1, "stick 1 when 1^");
        C.fault(1, "stick 1 when 1\n\n ^");
        C.fault(1, "stick 1 when (1^");
        C.fault(1, " ".repeat(999) + "^!");
        C.fault(1, " ".repeat(995) + "stick^");
        C.fault(4, " ".repeat(994) + "gap ^99");
        C.fault(5, " ".repeat(1000 - 313 - 2) + "gap 1 when 1;".repeat(24) + "^gap");
        C.fine("");
        C.fine(" ".repeat(1000));
    }

    private static void theFirstAndTheLeast() {
        C.says("FAULTS, kind + 16 * the place (from 0) of a token");
        C.fault(4, "gap ^5 to 9 when 1;");
        C.fault(4, "gap ^5 whem !;");
        C.fault(1, "gap ^! to 9 when 1;");
        C.fault(4, "gap 1 to ^0 !");
        C.fault(1, "gap 1 when ^! gap 9");
        C.fault(4, "gap ^9 when ((((1))));");
        C.fault(5, "gap 1 when ((((^1)))); gap 9 when 1;");
        C.says("1 it is none, or can't stand there; 4 a NUMBER that is not as told; 5 one too many");
        C.fault(1, "gap ^ring when 1;");
        C.fault(1, "gap ^123456 when 1;");
        C.fault(4, "gap ^12345 when 1;");
    }

    private static void endsAsBits() {
        C.says("an END is LOW (0) or HIGH (1) for each OPEN law, in order, as bits (the first one lowest); in a law "
                + "that is not OPEN N is N");
        RingDisk x = C.disk(6, "gather 1 when 1; seen 10 to 11 when ring = 0; seen 50 when ring = 4;"
                + "seen 20 to 21 when ring = 1; seen 60 to 60 when ring = 5; seen 30 to 31 when ring = 2;"
                + "seen 40 to 41 when ring = 3;");
        for (int ring = 0; ring < 6; ring++) {
            x.dust(ring, 0, 1);
        }
        x.steps(1);
        for (int end = 0; end < 16; end++) {
            C.due("end(" + end + ")", x.end(end), true);
            for (int ring = 0; ring < 4; ring++) {
                C.due("SEEN in RING " + ring, x.look(ring, 7), 10 * (ring + 1) + (end >> ring & 1));
            }
            C.due("not OPEN", x.look(4, 7) + x.look(5, 7), 110);
        }
    }

    private static void end0UntilTold() {
        C.says("The DISK goes by END 0 until another END is told.");
        RingDisk x = C.disk(2, "break 50 to 100 when 1;");
        x.dust(0, 1, 100);
        C.due("END", x.count(6), 0);
        x.steps(1);
        C.dustOf(x, 0, 50, 50, 0, 0, 0);
        C.due("end(1)", x.end(1), true);
        x.steps(1);
        C.dustOf(x, 0, 100, 0, 0, 0, 0);
        C.due("END", x.count(6), 1);
    }

    private static void inPlaceOfThoseAhead() {
        C.says("LAWS without a FAULT are in force in place of those ahead; the END is 0 then.");
        RingDisk x = C.disk(2, "gap 1 to 2 when 1; gap 1 to 2 when 1; break 100 when 1;");
        x.dust(0, 1, 100);
        C.due("end(3)", x.end(3), true);
        C.law(x, "gap 1 to 2 when 1; gap 1 to 2 when 1;", 0);
        C.due("END", x.count(6), 0);
        C.due("LAWS", x.count(4), 2);
        x.steps(1);
        C.dustOf(x, 0, 0, 100, 0, 0, 0);
        C.due("end(3)", x.end(3), true);
        C.law(x, "", 0);
        C.due("none at all", x.count(4) + x.count(5) + x.count(6), 0);
        C.due("end(1)", x.end(1), false);
    }

    private static void roundIn32Bits() {
        C.says("Numbers go round in 32 bits");
        hold(true, MOST + " + 1 = " + LEAST, LEAST + " - 1 = " + MOST, MOST + " + 1 < 0",
                "0 < " + LEAST + " - 1", "0 - " + LEAST + " = " + LEAST, LEAST + " * (0 - 1) = " + LEAST,
                MOST + " * 2 = 0 - 2", "46341 * 46341 < 0", "0 < 46340 * 46340", "65536 * 65536 = 0",
                "65536 * 32768 = " + LEAST,
                "99999 * 99999 = 14098 * 99999 + 79507",
                LEAST + " < " + MOST, MOST + " - " + LEAST + " = 0 - 1", LEAST);
        hold(false, "65536 * 65536", MOST + " < " + LEAST, LEAST + " + " + LEAST, MOST + " + 1 + " + MOST + " + 1",
                "46340 * 46340 < 0");
    }

    private static void division() {
        C.says("/ is cut towards 0, by 0 it is 0");
        hold(true, "7 / 2 = 3", "(0 - 7) / 2 = 0 - 3", "7 / (0 - 2) = 0 - 3", "(0 - 7) / (0 - 2) = 3", "1 / 2 = 0",
                "(0 - 1) / 2 = 0", "99999 / 99999 = 1", "99998 / 99999 = 0", "6 / 2 = 3", "5 / 0 = 0", "0 / 0 = 0",
                "(0 - 5) / 0 = 0", "5 / (3 - 3) = 0", "1 / 0 + 1", LEAST + " / (0 - 1) = " + LEAST,
                LEAST + " / 0 = 0", MOST + " / " + LEAST + " = 0", LEAST + " / " + MOST + " = 0 - 1",
                "5 / 0 * 7 = 0", "0 / 5 = 0", "gas / gas = 0", "99999 / 1 = 99999");
        hold(false, "1 / 2", "5 / 0", "0 / 0", LEAST + " / 0", "(0 - 1) / 2");
    }

    private static void oneOrZero() {
        C.says("\"and\", \"or\", <, = tell 1 or 0, not 1 of 0, else 0");
        hold(true, "(5 and 7) = 1", "(5 and 0) = 0", "(0 and 5) = 0", "(0 and 0) = 0", "(5 or 7) = 1", "(0 or 7) = 1",
                "(7 or 0) = 1", "(0 or 0) = 0", "(1 < 2) = 1", "(2 < 2) = 0", "(3 < 2) = 0", "(2 = 2) = 1",
                "(2 = 3) = 0", "not 0 = 1", "not 1 = 0", "not 2 = 0", "not (0 - 1) = 0", "not not 7 = 1",
                "((0 - 1) and (0 - 2)) = 1", "((0 - 1) or 0) = 1", "(0 - 1 < 0) = 1", "not 0 + not 0 = 2",
                "(" + LEAST + " and " + LEAST + ") = 1", "not 65536 * 65536 = 0");
    }

    private static void fromTheLeft() {
        C.says("and, or, * and / go from the left alike");
        hold(true, "0 and 0 or 1", "1 or 0 and 1", "7 / 2 * 2 = 6", "2 * 7 / 2 = 7", "12 / 2 / 3 = 2",
                "12 / 4 * 3 / 9 = 1", "10 - 3 - 2 = 5", "10 - 3 + 2 = 9", "1 + 2 * 3 = 7", "8 - 6 / 2 = 5");
        hold(false, "1 or 1 and 0", "1 or 0 and 0", "0 and 1 or 0", "1 and 1 and 0");
        // What waits at once: and, <, + and * in each of four levels.
        String deep = "1 and 1 < 1 + 1 * ";
        String in = deep + "(" + deep + "(" + deep + "(" + deep;
        hold(true, in + "1)))");
        hold(false, in + "0)))");
    }

    private static void whatIsAskedAbout() {
        C.says("In E: ring; size; gas, warm of the RING; dust: of that SIZE in the RING; all: of all SIZES in it; "
                + "weight: of the LUMP; step: STEP; lumps: how many are THERE.");
        String[] facts = {"ring = 11", "size = 4", "gas = 99999", "warm = 999", "dust = 99999",
            "all = 5 * 99999", "weight = 0", "step = 7", "lumps = 0"};
        for (String fact : facts) {
            C.due(fact, most(fact), 99999);
            C.due("not " + fact, most("not (" + fact + ")"), 0);
        }
        RingDisk x = C.disk(12, "gather 1 when 1;");
        for (int ring = 0; ring < 12; ring++) {
            x.ring(ring, 99999, 999, 1);
            x.dust(ring, 0, 99999);
            x.dust(ring, 1, 99999);
        }
        x.steps(1);
        C.law(x, "seen 9 when weight = 2 * 99999 and lumps = 12 and ring = 11 and gas = 99999 and warm = 999"
                + " and step = 1 and all = 0;", 0);
        C.due("of the last LUMP", x.look(22, 7), 9);
        C.due("of another RING", x.look(20, 7), 0);
    }

    /** How much of the greatest SIZE breaks in the last RING, all being full, in STEP 7 if E holds then. */
    private static int most(String e) {
        RingDisk x = C.disk(12, "break 100 when ring = 11 and size = 4 and step = 7 and (" + e + ");");
        x.ring(11, 99999, 999, 1);
        for (int size = 0; size < 5; size++) {
            x.dust(11, size, 99999);
        }
        x.steps(8);
        return x.has(11, 0) - 99999;
    }

    private static void whatIsNotAskedAbout() {
        C.says("What is not asked about (size, dust for LUMPS; weight for dust) is 0.");
        RingDisk x = C.disk(2, "gather 5 when size = 4 and weight = 0; seen 1 when size; seen 2 when dust;"
                + "seen 3 when weight = 5; feed 100 when size or dust; eat 100 when size or dust;"
                + "wander 1 when size or dust; stick 100 when weight; break 100 when weight; drift 100 when weight;");
        C.gas(x, 5, 9);
        x.dust(0, 4, 5);
        x.dust(0, 3, 7);
        x.steps(1);
        C.due("SEEN", x.look(0, 7), 3);
        C.due("it has not fed, eaten or wandered", x.look(0, 2) * 10 + x.look(0, 1), 50);
        x.steps(3);
        C.dustOf(x, 0, 0, 0, 0, 7, 0, 5);
        C.due("still", x.look(0, 2) * 10 + x.look(0, 1), 50);
    }

    private static void theFirstThatHolds() {
        C.says("N of the first law of that KIND whose E is not 0; none without one.");
        RingDisk x = C.disk(2, "gather 1 when 1;");
        x.dust(0, 0, 1);
        x.steps(1);
        String[] laws = {"", "seen 5 when 0;", "seen 5 when 1; seen 6 when 1;", "seen 5 when 0; seen 6 when 1;",
            "seen 5 when 0 - 1; seen 6 when 1;", "gap 3 when 1;", "seen 5 when 65536 * 65536; seen 6 when 65536;",
            "seen 0 when 1; seen 6 when 1;", "seen 5 when 0;".repeat(23) + "seen 9 when 1;",
            "seen 5 when 0;".repeat(24)};
        int[] want = {0, 0, 5, 6, 5, 0, 6, 0, 9, 0};
        for (int i = 0; i < laws.length; i++) {
            C.law(x, laws[i], 0);
            C.due("SEEN by " + laws[i], x.look(0, 7), want[i]);
        }
    }

    private static void faultsLeaveLaws() {
        C.says("0, or its FAULT (those ahead stay then)");
        RingDisk x = C.disk(2, "break 50 to 100 when 1;");
        x.dust(0, 1, 100);
        x.end(1);
        String[] bad = {"stick 100 when 1; !", "gap 9 when 1;", "gap 1 when 1;".repeat(25),
            "gap 1 to 2 when 1;".repeat(5), "stick 100 when ((((1))));", "stick 100 when 1"};
        int[] fault = {1 + 16 * 18, 4 + 16 * 4, 5 + 16 * 312, 5 + 16 * 81, 5 + 16 * 19, 1 + 16 * 16};
        for (int i = 0; i < bad.length; i++) {
            C.law(x, bad[i], fault[i]);
            C.due("LAWS, OPEN ones, END", x.count(4) * 100 + x.count(5) * 10 + x.count(6), 111);
        }
        x.steps(1);
        C.dustOf(x, 0, 100, 0, 0, 0, 0);
    }

    private static void whichEnds() {
        C.says("The END: true; false: more bits than OPEN laws, below 0.");
        for (int open = 0; open <= 4; open++) {
            RingDisk x = C.disk(2, "gap 1 to 2 when 1;".repeat(open));
            int most = (1 << open) - 1;
            C.due("the most", x.end(most), true);
            for (int bits : new int[] {-1, -2, most + 1, most + 2, 1 << 4, 1 << 30, Integer.MAX_VALUE,
                Integer.MIN_VALUE, -(1 << 4)}) {
                C.due("end(" + bits + ") of " + open, x.end(bits), false);
                C.due("it stays", x.count(6), most);
            }
            C.due("end(0)", x.end(0), true);
            C.due("END", x.count(6), 0);
        }
    }
}
