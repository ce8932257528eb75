import java.util.ArrayList;
import java.util.Arrays;
import java.util.HashSet;
import java.util.List;
import java.util.Set;
import java.util.function.ToIntFunction;
import java.util.regex.Matcher;
import java.util.regex.Pattern;

/** The document once more, written apart from the class and with no eye to speed, to compare answers with. */
final class Oracle {
    static final class Fault extends RuntimeException {
        private static final long serialVersionUID = 1L;
        final int number;

        Fault(int kind, int place) {
            number = kind + 16 * place;
        }
    }

    record Token(char type, String text, int place) { }

    record Scene(State at, int ring, int size, Body lump) { }

    record Law(String kind, int low, int high, ToIntFunction<Scene> when) {
        boolean isOpen() {
            return low < high;
        }
    }

    static final class Body {
        String state = "there";
        int ring;
        int came;
        int count;
        int eater = -1;
        int gas;
        int[] dust = new int[12];

        Body copy() {
            Body b = new Body();
            b.state = state;
            b.ring = ring;
            b.came = came;
            b.count = count;
            b.eater = eater;
            b.gas = gas;
            b.dust = dust.clone();
            return b;
        }

        boolean there() {
            return state.equals("there");
        }

        int weight() {
            return gas + Arrays.stream(dust).sum();
        }

        int family() {
            int best = -1;
            for (int i = 0; i < 12; i++) {
                if (dust[i] > 0 && (best < 0 || dust[i] > dust[best])) {
                    best = i;
                }
            }
            return best;
        }
    }

    static final class State {
        int n;
        int step;
        int pull;
        long g;
        long fallen;
        long thrown;
        long toldAtStart;
        int[] gas = new int[12];
        int[] warm = new int[12];
        int[] period = new int[12];
        int[][] dust = new int[12][5];
        List<Body> bodies = new ArrayList<>();

        State(int rings) {
            n = rings;
            for (int i = 0; i < 12; i++) {
                period[i] = 100 * (i + 1);
            }
        }

        State copy() {
            State s = new State(n);
            s.step = step;
            s.pull = pull;
            s.g = g;
            s.fallen = fallen;
            s.thrown = thrown;
            s.toldAtStart = toldAtStart;
            s.gas = gas.clone();
            s.warm = warm.clone();
            s.period = period.clone();
            for (int i = 0; i < 12; i++) {
                s.dust[i] = dust[i].clone();
            }
            for (Body b : bodies) {
                s.bodies.add(b.copy());
            }
            return s;
        }

        int all(int r) {
            return Arrays.stream(dust[r]).sum();
        }

        int there() {
            return (int) bodies.stream().filter(Body::there).count();
        }

        int gasAt(int r) {
            return r < 0 ? pull : r >= n ? 0 : gas[r];
        }

        int way(int r) {
            int best = r;
            for (int to : new int[] {r - 1, r + 1}) {
                if (gasAt(to) > gasAt(best)) {
                    best = to;
                }
            }
            return best;
        }

        boolean locked(Body b) {
            return bodies.stream().anyMatch(o -> o.there() && o.ring < b.ring
                    && (period[b.ring] == 2 * period[o.ring] || period[b.ring] * 2 == period[o.ring] * 3));
        }

        long inRings() {
            long sum = 0;
            for (int r = 0; r < n; r++) {
                sum += gas[r] + all(r);
            }
            return sum;
        }
    }

    State s = new State(12);
    final State[] marks = new State[6];
    List<Law> laws = new ArrayList<>();
    int end;
    int luck;
    int share = 101;
    final StringBuilder tape = new StringBuilder();
    final List<int[]> told = new ArrayList<>();
    /** Whether a lump has held back dust that would have moved; for the tests to see that they come to it. */
    boolean heldBack;

    // ---- laws

    private List<Token> tokens;
    private int at;

    private static List<Token> cut(String text) {
        List<Token> list = new ArrayList<>();
        Matcher m = Pattern.compile("[\\n ]+|[a-z]+|[0-9]+|[-()<=+*/;]|.", Pattern.DOTALL).matcher(text);
        while (m.find()) {
            String t = m.group();
            char c = t.charAt(0);
            if (c == ' ' || c == '\n') {
                continue;
            }
            char type = c >= 'a' && c <= 'z' ? (t.length() <= 8 ? 'w' : '?')
                    : c >= '0' && c <= '9' ? (t.length() <= 5 ? 'n' : '?')
                    : "()<=+-*/;".indexOf(c) >= 0 ? 's' : '?';
            list.add(new Token(type, t, m.start()));
        }
        list.add(new Token('e', "", text.length()));
        return list;
    }

    private Token peek() {
        return tokens.get(at);
    }

    private boolean sees(String text) {
        return (peek().type == 'w' || peek().type == 's') && peek().text.equals(text);
    }

    private boolean takes(String text) {
        if (sees(text)) {
            at++;
            return true;
        }
        return false;
    }

    private void must(String text) {
        if (!takes(text)) {
            throw new Fault(1, peek().place);
        }
    }

    private int number(int least, int most) {
        if (peek().type != 'n') {
            throw new Fault(1, peek().place);
        }
        int v = Integer.parseInt(peek().text);
        if (v < least || v > most) {
            throw new Fault(4, peek().place);
        }
        at++;
        return v;
    }

    private List<Law> parse(String text) {
        List<Law> list = new ArrayList<>();
        tokens = cut(text);
        at = 0;
        int open = 0;
        while (peek().type != 'e') {
            String kind = peek().text;
            if (peek().type != 'w' || !List.of("stick", "break", "drift", "gather", "feed", "eat", "wander", "gap",
                    "seen").contains(kind)) {
                throw new Fault(1, peek().place);
            }
            if (list.size() == 24) {
                throw new Fault(5, peek().place);
            }
            at++;
            int least = kind.equals("gather") || kind.equals("wander") ? 1 : 0;
            int most = kind.equals("gather") ? 99999 : kind.equals("wander") ? 99 : kind.equals("gap") ? 4 : 100;
            int low = number(least, most);
            int high = low;
            if (takes("to")) {
                int place = peek().place;
                high = number(low, most);
                if (high > low && ++open == 5) {
                    throw new Fault(5, place);
                }
            }
            must("when");
            ToIntFunction<Scene> e = any(0);
            must(";");
            list.add(new Law(kind, low, high, e));
        }
        return list;
    }

    private ToIntFunction<Scene> any(int depth) {
        ToIntFunction<Scene> left = test(depth);
        while (sees("and") || sees("or")) {
            boolean and = sees("and");
            at++;
            ToIntFunction<Scene> a = left;
            ToIntFunction<Scene> b = test(depth);
            left = x -> {
                boolean p = a.applyAsInt(x) != 0;
                boolean q = b.applyAsInt(x) != 0;
                return (and ? p && q : p || q) ? 1 : 0;
            };
        }
        return left;
    }

    private ToIntFunction<Scene> test(int depth) {
        ToIntFunction<Scene> a = sum(depth);
        if (takes("<")) {
            ToIntFunction<Scene> b = sum(depth);
            return x -> a.applyAsInt(x) < b.applyAsInt(x) ? 1 : 0;
        }
        if (takes("=")) {
            ToIntFunction<Scene> b = sum(depth);
            return x -> a.applyAsInt(x) == b.applyAsInt(x) ? 1 : 0;
        }
        return a;
    }

    private ToIntFunction<Scene> sum(int depth) {
        ToIntFunction<Scene> left = term(depth);
        while (sees("+") || sees("-")) {
            int sign = sees("+") ? 1 : -1;
            at++;
            ToIntFunction<Scene> a = left;
            ToIntFunction<Scene> b = term(depth);
            left = x -> (int) ((long) a.applyAsInt(x) + sign * (long) b.applyAsInt(x));
        }
        return left;
    }

    private ToIntFunction<Scene> term(int depth) {
        ToIntFunction<Scene> left = part(depth);
        while (sees("*") || sees("/")) {
            boolean times = sees("*");
            at++;
            ToIntFunction<Scene> a = left;
            ToIntFunction<Scene> b = part(depth);
            left = x -> {
                long p = a.applyAsInt(x);
                long q = b.applyAsInt(x);
                return (int) (times ? p * q : q == 0 ? 0 : p / q);
            };
        }
        return left;
    }

    private ToIntFunction<Scene> part(int depth) {
        Token t = peek();
        boolean fact = t.type == 'w' && List.of("ring", "size", "gas", "warm", "dust", "all", "weight", "step",
                "lumps").contains(t.text);
        if (t.type != 'n' && !fact && !sees("not") && !sees("(")) {
            throw new Fault(1, t.place);
        }
        if (depth == 4) {
            throw new Fault(5, t.place);
        }
        at++;
        if (t.type == 'n') {
            int v = Integer.parseInt(t.text);
            return x -> v;
        }
        switch (t.text) {
            case "(":
                ToIntFunction<Scene> inner = any(depth + 1);
                must(")");
                return inner;
            case "not":
                ToIntFunction<Scene> of = part(depth + 1);
                return x -> of.applyAsInt(x) == 0 ? 1 : 0;
            case "ring":
                return x -> x.ring;
            case "size":
                return x -> x.lump == null ? x.size : 0;
            case "gas":
                return x -> x.at.gas[x.ring];
            case "warm":
                return x -> x.at.warm[x.ring];
            case "dust":
                return x -> x.lump == null ? x.at.dust[x.ring][x.size] : 0;
            case "all":
                return x -> x.at.all(x.ring);
            case "weight":
                return x -> x.lump == null ? 0 : x.lump.weight();
            case "step":
                return x -> x.at.step;
            default:
                return x -> x.at.there();
        }
    }

    private int n(String kind, Scene x, int bits) {
        int open = 0;
        for (Law l : laws) {
            int bit = l.isOpen() ? open++ : 0;
            if (l.kind.equals(kind) && l.when.applyAsInt(x) != 0) {
                return l.isOpen() && (bits >> bit & 1) == 1 ? l.high : l.low;
            }
        }
        return -1;
    }

    private int open() {
        return (int) laws.stream().filter(Law::isOpen).count();
    }

    // ---- steps

    private void step(State d, int bits) {
        if (d.step == 0) {
            d.toldAtStart = d.inRings();
        }
        for (int r = 0; r < d.n; r++) {
            for (int z = 3; z >= 0; z--) {
                int n = n("stick", new Scene(d, r, z, null), bits);
                if (n >= 0 && luck > 0) {
                    d.g = (d.g * 1103515245L + 12345) % 2147483648L;
                    long x = d.g / 65536;
                    n = (int) (n + x % (2 * luck + 1) - luck);
                    n = n < 0 ? 0 : n > 100 ? 100 : n;
                }
                int m = n < 0 ? 0 : d.dust[r][z] * n / 100;
                d.dust[r][z] -= m;
                d.dust[r][z + 1] += m;
            }
        }
        for (int r = 0; r < d.n; r++) {
            for (int z = 1; z <= 4; z++) {
                int n = n("break", new Scene(d, r, z, null), bits);
                int m = n < 0 ? 0 : d.dust[r][z] * n / 100;
                d.dust[r][z] -= m;
                d.dust[r][0] += m;
            }
        }
        drift(d, bits);
        for (int r = 0; r < d.n; r++) {
            for (int z = 4; z >= 0; z--) {
                int n = n("gather", new Scene(d, r, z, null), bits);
                if (n >= 0 && d.dust[r][z] >= n && d.bodies.size() < 30) {
                    Body b = new Body();
                    b.ring = r;
                    b.came = d.step;
                    b.dust[r] = d.dust[r][z];
                    d.dust[r][z] = 0;
                    d.bodies.add(b);
                }
            }
        }
        for (Body b : d.bodies) {
            int n = b.there() ? n("feed", new Scene(d, b.ring, 0, b), bits) : -1;
            for (int z = 0; z < 5 && n >= 0; z++) {
                int m = d.dust[b.ring][z] * n / 100;
                d.dust[b.ring][z] -= m;
                b.dust[b.ring] += m;
            }
        }
        for (Body b : d.bodies) {
            int n = b.there() ? n("eat", new Scene(d, b.ring, 0, b), bits) : -1;
            int m = n < 0 ? 0 : d.gas[b.ring] * n / 100;
            d.gas[b.ring] -= m;
            b.gas += m;
        }
        for (Body b : d.bodies) {
            int n = b.there() ? n("wander", new Scene(d, b.ring, 0, b), bits) : -1;
            if (n >= 0 && !d.locked(b) && ++b.count >= n) {
                b.count = 0;
                int to = d.way(b.ring);
                if (to < 0) {
                    b.state = "fallen";
                    d.fallen += b.weight();
                } else {
                    b.ring = to;
                }
            }
        }
        meet(d);
        d.step++;
    }

    private void drift(State d, int bits) {
        State was = d.copy();
        for (int r = 0; r < d.n; r++) {
            int to = was.way(r);
            for (int z = 0; z < 5; z++) {
                int n = n("drift", new Scene(was, r, z, null), bits);
                boolean held = false;
                for (Body b : was.bodies) {
                    if (to == r - 1 && b.there() && b.ring == to) {
                        int gap = n("gap", new Scene(was, to, 0, b), bits);
                        held |= gap >= 0 && gap <= z;
                    }
                }
                heldBack |= held && n > 0 && was.dust[r][z] * n >= 100;
                if (n < 0 || to == r || held) {
                    continue;
                }
                int m = was.dust[r][z] * n / 100;
                d.dust[r][z] -= m;
                if (to < 0) {
                    d.fallen += m;
                } else {
                    d.dust[to][z] += m;
                }
            }
        }
    }

    private void meet(State d) {
        for (int r = 0; r < d.n; r++) {
            while (true) {
                int ring = r;
                List<Body> in = d.bodies.stream().filter(b -> b.there() && b.ring == ring).toList();
                if (in.size() < 2) {
                    break;
                }
                Body a = in.get(0);
                Body b = in.get(1);
                Body heavy = b.weight() > a.weight() ? b : a;
                Body other = heavy == a ? b : a;
                if (other.weight() * 100L >= heavy.weight() * (long) share) {
                    other.state = "thrown";
                    d.thrown += other.weight();
                    continue;
                }
                other.state = "eaten";
                other.eater = d.bodies.indexOf(heavy);
                heavy.gas += other.gas;
                for (int i = 0; i < 12; i++) {
                    heavy.dust[i] += other.dust[i];
                }
            }
        }
    }

    // ---- the face; an exception is told as -77

    private static boolean in(int v, int a, int b) {
        return v >= a && v <= b;
    }

    private boolean ringOk(int r) {
        return in(r, 0, s.n - 1);
    }

    private boolean endOk(int e) {
        return e >= 0 && e < Math.pow(2, open());
    }

    private State tried(State from, int bits, int n) {
        State c = from.copy();
        for (int i = 0; i < n; i++) {
            step(c, bits);
        }
        return c;
    }

    long call(String name, long... p) {
        int a = p.length > 0 ? (int) p[0] : 0;
        int b = p.length > 1 ? (int) p[1] : 0;
        int c = p.length > 2 ? (int) p[2] : 0;
        int d = p.length > 3 ? (int) p[3] : 0;
        switch (name) {
            case "rings":
                if (s.step != 0 || !in(a, 2, 12)) {
                    return 0;
                }
                State fresh = new State(a);
                fresh.pull = s.pull;
                fresh.g = s.g;
                s = fresh;
                return 1;
            case "ring":
                if (s.step != 0 || !ringOk(a) || !in(b, 0, 99999) || !in(c, 0, 999) || !in(d, 1, 9999)) {
                    return 0;
                }
                s.gas[a] = b;
                s.warm[a] = c;
                s.period[a] = d;
                return 1;
            case "dust":
                if (s.step != 0 || !ringOk(a) || !in(b, 0, 4) || !in(c, 0, 99999)) {
                    return 0;
                }
                s.dust[a][b] = c;
                return 1;
            case "star":
                if (!in(a, 0, 99999) || !in(b, 0, 20) || !in(c, 1, 101)) {
                    return 0;
                }
                s.pull = a;
                luck = b;
                share = c;
                return 1;
            case "seed":
                if (a < 0) {
                    return 0;
                }
                s.g = a;
                return 1;
            case "feed":
                for (long v : p) {
                    for (int i = 7; i >= 0; i--) {
                        int sign = (int) (v >>> 8 * i & 255);
                        if ((sign == 10 || in(sign, 32, 126)) && tape.length() < 1000) {
                            tape.append((char) sign);
                        }
                    }
                }
                return tape.length();
            case "laws":
                String text = tape.toString();
                tape.setLength(0);
                try {
                    laws = parse(text);
                    end = 0;
                    return 0;
                } catch (Fault f) {
                    return f.number;
                }
            case "end":
                if (!endOk(a)) {
                    return 0;
                }
                end = a;
                return 1;
            case "steps":
                if (!in(a, 1, 100) || s.step + a > 9999) {
                    return -1;
                }
                for (int i = 0; i < a; i++) {
                    step(s, end);
                }
                return s.step;
            case "has":
                if (!ringOk(a) || !in(b, 0, 7)) {
                    return -77;
                }
                return b < 5 ? s.dust[a][b] : b == 5 ? s.gas[a] : b == 6 ? s.all(a) : s.way(a) == a ? 1 : 0;
            case "look":
                return look(a, b);
            case "made":
                return in(a, 0, s.bodies.size() - 1) && ringOk(b) ? s.bodies.get(a).dust[b] : -1;
            case "parts":
                long lumps = s.bodies.stream().filter(Body::there).mapToLong(Body::weight).sum();
                return a == 0 ? s.inRings() : a == 1 ? lumps : a == 2 ? s.fallen : a == 3 ? s.thrown
                        : a == 4 ? (s.step == 0 ? s.inRings() : s.toldAtStart) : -1;
            default:
                return tries(name, a, b, c, d);
        }
    }

    private long look(int a, int b) {
        if (!in(a, 0, s.bodies.size() - 1) || !in(b, 0, 9)) {
            return -1;
        }
        Body o = s.bodies.get(a);
        switch (b) {
            case 0:
                return List.of("there", "eaten", "fallen", "thrown").indexOf(o.state);
            case 1:
                return o.ring;
            case 2:
                return o.weight();
            case 3:
                return o.gas;
            case 4:
                return o.family();
            case 5:
                return !o.there() ? -1 : s.locked(o) ? 1 : 0;
            case 6:
                return o.eater;
            case 7:
                return !o.there() ? -1 : Math.max(0, n("seen", new Scene(s, o.ring, 0, o), end));
            case 8:
                return o.came;
            default:
                return o.count;
        }
    }

    private long tries(String name, int a, int b, int c, int d) {
        switch (name) {
            case "asked":
                return endOk(a) ? ask(a, b, c, d) : -1;
            case "sure":
                int yes = 0;
                int all = 1 << open();
                for (int e = 0; e < all; e++) {
                    int got = ask(e, a, b, c);
                    if (got < 0) {
                        return -1;
                    }
                    yes += got;
                }
                return yes == all ? 2 : yes > 0 ? 1 : 0;
            case "empty":
                if (!ringOk(a) || !endOk(b)) {
                    return -1;
                }
                State t = s.copy();
                for (int i = 0; i <= 200; i++) {
                    if (t.all(a) == 0) {
                        return t.step;
                    }
                    step(t, b);
                }
                return -1;
            case "runs":
                if (!in(a, 1, 40) || !in(b, 0, 60) || !in(c, -1, 30)) {
                    return -1;
                }
                int sum = 0;
                for (int k = 0; k < a; k++) {
                    State from = s.copy();
                    from.g = k;
                    int there = tried(from, end, b).there();
                    sum += c < 0 ? there : there == c ? 1 : 0;
                }
                return sum;
            case "back":
                int put = 0;
                for (int i = 0; i < s.bodies.size(); i++) {
                    long seen = look(i, 7);
                    put += seen > 0 ? (int) (10000 / seen) : 0;
                }
                return put;
            case "told":
                if (!in(a, 0, 30) || !in(b, 0, 100) || told.size() == 10) {
                    return -1;
                }
                told.add(new int[] {a, b});
                return told.size() - 1;
            case "forget":
                int were = told.size();
                told.clear();
                return were;
            case "fits":
                return !endOk(a) ? -1 : fit(a) ? 1 : 0;
            case "barred":
                if (!in(a, 0, open() - 1) || !in(b, 0, 1)) {
                    return -1;
                }
                for (int e = 0; e < 1 << open(); e++) {
                    if ((e >> a & 1) == b && fit(e)) {
                        return 0;
                    }
                }
                return 1;
            case "mark":
                if (!in(a, 0, 5) || b == 1 && marks[a] == null) {
                    return 0;
                }
                if (b == 1) {
                    s = marks[a].copy();
                } else {
                    marks[a] = s.copy();
                }
                return 1;
            default:
                return counted(a);
        }
    }

    private int ask(int e, int n, int what, int v) {
        if (!in(n, 0, 100) || !in(what, 0, 4) || (what == 2 || what == 4 ? !in(v, 0, 999999) : !ringOk(v))) {
            return -1;
        }
        State t = tried(s, e, n);
        boolean yes = switch (what) {
            case 0 -> t.all(v) == 0;
            case 1 -> t.bodies.stream().anyMatch(o -> o.there() && o.ring == v);
            case 2 -> t.there() >= v;
            case 3 -> t.bodies.stream().anyMatch(o -> o.there() && o.family() == v);
            default -> t.fallen >= v;
        };
        return yes ? 1 : 0;
    }

    private boolean fit(int e) {
        return told.stream().allMatch(t -> tried(s, e, t[1]).there() == t[0]);
    }

    private long counted(int what) {
        int traps = 0;
        for (int r = 0; r < s.n; r++) {
            traps += s.way(r) == r ? 1 : 0;
        }
        Set<Integer> families = new HashSet<>();
        for (Body o : s.bodies) {
            if (o.there()) {
                families.add(o.family());
            }
        }
        int[] all = {s.step, s.n, s.bodies.size(), s.there(), laws.size(), open(), end, tape.length(), told.size(),
            traps, families.size()};
        return in(what, 0, 10) ? all[what] : -1;
    }
}
