import java.util.ArrayList;
import java.util.List;
import java.util.NoSuchElementException;
import java.util.Random;
import java.util.TreeMap;

/** Runs of calls by chance (always the same ones), each answer compared with the oracle's. */
public final class RandomRunsTest {
    private final Random chance;
    private final Check check;
    private final TreeMap<String, Integer> seen;
    private RingDisk x;
    private Oracle o;
    private final List<String> run = new ArrayList<>();
    private boolean stopped;

    RandomRunsTest(long seed, Check check, TreeMap<String, Integer> seen) {
        chance = new Random(seed);
        this.check = check;
        this.seen = seen;
    }

    public static void main(String[] args) {
        int runs = args.length > 0 ? Integer.parseInt(args[0]) : 1500;
        int first = args.length > 1 ? Integer.parseInt(args[1]) : 0;
        Check check = new Check();
        TreeMap<String, Integer> seen = new TreeMap<>();
        for (int i = 0; i < runs; i++) {
            new RandomRunsTest(first + i, check, seen).go();
        }
        System.out.println(seen);
        for (String must : new String[] {"state 0", "state 1", "state 2", "state 3", "locked 1", "sure 1", "sure 2",
            "barred 1", "laws 0", "laws 1", "laws 4", "laws 5", "empty later", "odds", "family moved", "held"}) {
            check.due("the runs come to " + must, seen.containsKey(must), true);
        }
        check.end("RandomRunsTest");
    }

    private int upTo(int n) {
        return chance.nextInt(n + 1);
    }

    private int pick(int... of) {
        return of[chance.nextInt(of.length)];
    }

    private String pick(String... of) {
        return of[chance.nextInt(of.length)];
    }

    private void saw(String what) {
        seen.merge(what, 1, Integer::sum);
    }

    private long same(String name, long... p) {
        if (stopped) {
            return -1;
        }
        long got = answer(name, p);
        long want = o.call(name, p);
        StringBuilder call = new StringBuilder(name).append('(');
        for (int i = 0; i < p.length; i++) {
            call.append(i > 0 ? ", " : "").append(p[i]);
        }
        run.add(call.append(") = ").append(want).toString());
        check.due(name, got, want);
        if (got != want) {
            System.out.println(String.join("\n  ", run));
            stopped = true;
        }
        return want;
    }

    private long answer(String name, long[] p) {
        int a = p.length > 0 ? (int) p[0] : 0;
        int b = p.length > 1 ? (int) p[1] : 0;
        int c = p.length > 2 ? (int) p[2] : 0;
        int d = p.length > 3 ? (int) p[3] : 0;
        switch (name) {
            case "rings": return x.rings(a) ? 1 : 0;
            case "ring": return x.ring(a, b, c, d) ? 1 : 0;
            case "dust": return x.dust(a, b, c) ? 1 : 0;
            case "star": return x.star(a, b, c) ? 1 : 0;
            case "seed": return x.seed(a) ? 1 : 0;
            case "feed": return x.feed(p[0], p[1], p[2]);
            case "laws": return x.laws();
            case "end": return x.end(a) ? 1 : 0;
            case "steps": return x.steps(a);
            case "has":
                try {
                    return x.has(a, b);
                } catch (NoSuchElementException e) {
                    return -77;
                }
            case "look": return x.look(a, b);
            case "made": return x.made(a, b);
            case "parts": return x.parts(a);
            case "asked": return x.asked(a, b, c, d);
            case "sure": return x.sure(a, b, c);
            case "empty": return x.empty(a, b);
            case "runs": return x.runs(a, b, c);
            case "back": return x.back();
            case "told": return x.told(a, b);
            case "forget": return x.forget();
            case "fits": return x.fits(a);
            case "barred": return x.barred(a, b);
            case "mark": return x.mark(a, b == 1) ? 1 : 0;
            default: return x.count(a);
        }
    }

    private void go() {
        x = new RingDisk();
        o = new Oracle();
        if (chance.nextInt(3) == 0) {
            goTame();
            return;
        }
        if (chance.nextInt(8) > 0) {
            same("rings", 2 + upTo(5));
        }
        tellRings();
        same("star", upTo(60), pick(0, 0, 3, 10, 20), pick(101, 101, 50, 80, 100, 1, 20));
        same("seed", chance.nextInt() & Integer.MAX_VALUE);
        int calls = 60 + upTo(80);
        lay(lawText());
        for (int i = 0; i < calls && !stopped; i++) {
            one();
        }
    }

    /** A small disk with laws that mostly hold and ENDS that matter, and questions near to what will be. */
    private void goTame() {
        int n = 2 + upTo(3);
        same("rings", n);
        for (int r = 0; r < n; r++) {
            same("ring", r, upTo(30), upTo(5), pick(100, 150, 200, 300, 100 * (r + 1)));
            same("dust", r, upTo(4), upTo(200));
            same("dust", r, upTo(2), upTo(200));
        }
        same("star", upTo(25), pick(0, 0, 5, 20), pick(101, 90, 50, 10));
        lay(tameLaws());
        int calls = 40 + upTo(40);
        for (int i = 0; i < calls && !stopped; i++) {
            tameOne(n);
        }
    }

    private String tameLaws() {
        StringBuilder text = new StringBuilder();
        for (int i = 2 + upTo(6); i > 0; i--) {
            String kind = pick("stick", "drift", "drift", "gather", "gather", "feed", "eat", "wander", "gap");
            int most = kind.equals("gather") ? 250 : kind.equals("wander") ? 6 : kind.equals("gap") ? 4 : 100;
            int low = chance.nextInt(3) == 0 ? most : 1 + upTo(most / 4);
            text.append(kind).append(' ').append(low);
            if (low < most && chance.nextInt(3) > 0) {
                text.append(" to ").append(pick(most, most - upTo(most / 4)));
            }
            text.append(" when ").append(pick("1", "1", "ring", "size<3", "step<4", "lumps<3", "not warm", "0<gas"));
            text.append(';');
        }
        text.append("seen 20 to 60 when weight<150;seen ").append(1 + upTo(99)).append(" when 1;");
        return text.toString();
    }

    private void tameOne(int n) {
        int open = x.count(5);
        int e = upTo((1 << open) - 1);
        int far = pick(0, 1, 2, 3, 5, 9, 20, 60);
        int what = upTo(4);
        int v = what == 2 ? upTo(4) : what == 4 ? upTo(300) : upTo(n - 1);
        switch (chance.nextInt(12)) {
            case 0:
                same("steps", pick(1, 1, 1, 2, 4));
                allLooked();
                break;
            case 1:
                same("end", e);
                break;
            case 2:
            case 3:
            case 4:
                saw("sure " + same("sure", far, what, v));
                break;
            case 5:
                same("asked", e, far, what, v);
                break;
            case 6:
                if (same("empty", upTo(n - 1), e) > x.count(0)) {
                    saw("empty later");
                }
                break;
            case 7:
                int m = upTo(5) - 1;
                if (same("runs", pick(1, 4, 9), far, m) > 0 && m > 0) {
                    saw("odds");
                }
                break;
            case 8:
                same("told", upTo(3), pick(1, 2, 5));
                break;
            case 9:
                same("fits", e);
                saw("barred " + same("barred", upTo(3), upTo(1)));
                break;
            case 10:
                if (chance.nextInt(2) == 0) {
                    same("forget");
                }
                same("back");
                break;
            default:
                same("mark", upTo(1), upTo(2) / 2);
        }
    }

    private void tellRings() {
        int n = (int) same("count", 1);
        for (int r = 0; r < n; r++) {
            if (chance.nextInt(5) > 0) {
                same("ring", r, pick(upTo(5), upTo(50), upTo(1000), upTo(99999)), upTo(9), pick(100 * (r + 1), 100,
                        200, 300, 150, 1 + upTo(9998)));
            }
            for (int z = 0; z < 5; z++) {
                if (chance.nextInt(3) == 0) {
                    same("dust", r, z, pick(upTo(10), upTo(300), upTo(99999)));
                }
            }
        }
    }

    private void lay(String text) {
        for (int at = 0; at < text.length(); at += 24) {
            same("feed", Check.bytes(text, at), Check.bytes(text, at + 8), Check.bytes(text, at + 16));
        }
        long fault = same("laws");
        saw("laws " + fault % 16);
    }

    private String lawText() {
        StringBuilder text = new StringBuilder();
        int laws = pick(3, 6, 9, 12, 26);
        for (int i = 0; i < laws; i++) {
            String kind = pick("stick", "break", "drift", "drift", "gather", "feed", "eat", "wander", "gap", "seen");
            int most = kind.equals("gather") ? pick(20, 500, 99999) : kind.equals("wander") ? 5
                    : kind.equals("gap") ? 4 : 100;
            int low = 1 + upTo(most - 1);
            text.append(kind).append(' ').append(chance.nextInt(60) == 0 ? notOf(kind) : low);
            if (chance.nextInt(laws) < 3) {
                text.append(pick(" to ", "to ")).append(low + upTo(most - low));
            }
            text.append(pick(" when ", "when ")).append(chance.nextInt(3) == 0 ? "1" : any(chance.nextInt(3)));
            text.append(pick(";", " ;\n", "; "));
        }
        if (chance.nextInt(5) == 0) {
            spoil(text);
        }
        return text.toString();
    }

    private String notOf(String kind) {
        switch (kind) {
            case "gather":
                return "0";
            case "wander":
                return pick("0", "100");
            case "gap":
                return pick("5", "00010");
            default:
                return pick("101", "99999");
        }
    }

    private void spoil(StringBuilder text) {
        for (int i = 0; i < 1 + chance.nextInt(2); i++) {
            int at = chance.nextInt(text.length());
            switch (chance.nextInt(5)) {
                case 0:
                    text.deleteCharAt(at);
                    break;
                case 1:
                    text.setCharAt(at, (char) pick(' ', '(', ')', '9', '0', 'z', '!', 'A', 200, 9, '<', ';', '\n'));
                    break;
                case 2:
                    text.setLength(at + 1);
                    break;
                case 3:
                    text.insert(at, pick("not ", "(", "99999", "123456", "and ", " when ", " to 5", "not not not not "));
                    break;
                default:
                    text.insert(at, pick(";", "drift 0 to 1 when 1;", "gap 1 to 5 when 1;", "abcdefghi", "+", "="));
            }
        }
    }

    private String any(int deep) {
        StringBuilder text = new StringBuilder(test(deep));
        for (int i = chance.nextInt(3); i > 1; i--) {
            text.append(pick(" and ", " or ")).append(test(deep));
        }
        return text.toString();
    }

    private String test(int deep) {
        return chance.nextInt(3) == 0 ? sum(deep) : sum(deep) + pick("<", " < ", "=", " =") + sum(deep);
    }

    private String sum(int deep) {
        return chance.nextInt(4) > 0 ? term(deep) : term(deep) + pick("+", "-", " - ") + term(deep);
    }

    private String term(int deep) {
        return chance.nextInt(4) > 0 ? part(deep) : part(deep) + pick("*", "/", " / ") + part(deep);
    }

    private String part(int deep) {
        if (deep > 0 && chance.nextInt(3) == 0) {
            return chance.nextBoolean() ? "(" + any(deep - 1) + ")" : " not " + part(deep - 1);
        }
        return chance.nextBoolean() ? "" + pick(upTo(3), upTo(3), upTo(100), upTo(99999))
                : pick("ring", "size", "gas", "warm", "dust", "all", "weight", "step", "lumps");
    }

    private void one() {
        int v = upTo(13) - 1;
        int e = pick(0, 0, 1, 2, 3, upTo(17) - 1);
        int what = pick(0, 1, 2, 3, 4, upTo(6) - 1);
        switch (chance.nextInt(22)) {
            case 0:
            case 1:
            case 2:
                same("steps", pick(1, 1, 1, 2, 3, 7, 0, 101, upTo(30)));
                allLooked();
                break;
            case 3:
                same("end", e);
                break;
            case 4:
                same("star", upTo(100000), upTo(21), upTo(102));
                break;
            case 5:
                same("seed", chance.nextInt());
                break;
            case 6:
                same("asked", e, pick(0, 1, 5, 20, 101, -1), what, numberFor(what, v));
                break;
            case 7:
            case 8:
                saw("sure " + same("sure", pick(0, 1, 5, 20, 101, -1), what, numberFor(what, v)));
                break;
            case 9:
                if (same("empty", v, e) > x.count(0)) {
                    saw("empty later");
                }
                break;
            case 10:
                int m = upTo(6) - 1;
                if (same("runs", pick(1, 3, 8, 0, 41), pick(0, 1, 5, 12, 61), m) > 0 && m > 0) {
                    saw("odds");
                }
                break;
            case 11:
                same("back");
                break;
            case 12:
                int there = (int) same("count", 3);
                same("told", chance.nextInt(4) == 0 ? upTo(33) - 1 : there, pick(0, 0, 1, 2, 5, 101, -1));
                break;
            case 13:
                if (chance.nextInt(3) == 0) {
                    same("forget");
                }
                break;
            case 14:
                same("fits", e);
                break;
            case 15:
            case 16:
                saw("barred " + same("barred", pick(0, 1, upTo(6) - 1), pick(0, 1, upTo(3) - 1)));
                break;
            case 17:
                same("mark", pick(0, 1, upTo(7) - 1), upTo(1));
                break;
            case 18:
                if (chance.nextInt(3) == 0) {
                    lay(lawText());
                }
                break;
            case 19:
                same("rings", upTo(14));
                if (x.count(0) == 0) {
                    tellRings();
                }
                break;
            case 20:
                same("ring", v, upTo(100000), upTo(1000), upTo(10000));
                same("dust", v, upTo(6) - 1, upTo(100000));
                break;
            default:
                same("feed", chance.nextLong(), chance.nextLong(), chance.nextLong());
                same("count", 7);
                if (chance.nextInt(3) == 0) {
                    same("laws");
                }
        }
    }

    private int numberFor(int what, int v) {
        return what == 2 || what == 4 ? pick(v, 1, 2, 100, 1000, 999999, 1000000, -1) : v;
    }

    private void allLooked() {
        for (int i = -1; i <= 11; i++) {
            same("count", i);
        }
        for (int i = -1; i <= 5; i++) {
            same("parts", i);
        }
        for (int r = -1; r <= x.count(1); r++) {
            for (int z = -1; z <= 8; z++) {
                same("has", r, z);
            }
        }
        for (int i = -1; i <= x.count(2); i++) {
            for (int w = -1; w <= 10; w++) {
                long told = same("look", i, w);
                if (w == 0) {
                    saw("state " + told);
                } else if (w == 5) {
                    saw("locked " + told);
                } else if (w == 4 && told >= 0 && told != x.look(i, 1)) {
                    saw("family moved");
                }
            }
            for (int r = -1; r <= x.count(1); r++) {
                same("made", i, r);
            }
        }
        if (o.heldBack) {
            saw("held");
        }
    }
}
