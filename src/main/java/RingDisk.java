import java.util.NoSuchElementException;

/**
 * A disk of rings of gas and dust that goes on step by step by told laws.
 * Every row is made once and used again, so that no call but the first use of a mark makes an object.
 */
public final class RingDisk {
    public static final int NONE = -1;

    private static final int LEAST_RINGS = 2;
    private static final int MOST_RINGS = 12;
    private static final int SIZES = 5;
    private static final int MOST_LUMPS = 30;
    private static final int MOST_MARKS = 6;
    private static final int MOST_TOLD = 10;
    private static final int MOST_SIGNS = 1000;
    private static final int MOST_AMOUNT = 99999;
    private static final int MOST_WARM = 999;
    private static final int MOST_PERIOD = 9999;
    private static final int MOST_LUCK = 20;
    private static final int NEVER_THROWN = 101;
    private static final int MOST_STEP = 9999;
    private static final int MOST_STEPS_AT_ONCE = 100;
    private static final int MOST_STEPS_TO_EMPTY = 200;
    private static final int MOST_RUNS = 40;
    private static final int MOST_STEPS_OF_RUNS = 60;
    private static final int MOST_NUMBER_ASKED = 999999;
    private static final int PUT_BACK_WHOLE = 10000;

    /** Where a WAY ends that goes inwards from RING 0. */
    private static final int STAR = -1;

    private static final int THERE = 0;
    private static final int EATEN = 1;
    private static final int FALLEN = 2;
    private static final int THROWN = 3;

    private static final int STICK = 0;
    private static final int BREAK = 1;
    private static final int DRIFT = 2;
    private static final int GATHER = 3;
    private static final int FEED = 4;
    private static final int EAT = 5;
    private static final int WANDER = 6;
    private static final int GAP = 7;
    private static final int SEEN = 8;

    private final Disk disk;
    private final Disk copy;
    private final Disk[] marks;
    private final Tape tape;
    private final Reader reader;
    private final Course course;
    private Laws inForce;
    private Laws spare;
    private int endInForce;
    private final int[] toldLumps;
    private final int[] toldSteps;
    private int toldCounts;

    public RingDisk() {
        disk = new Disk();
        marks = new Disk[MOST_MARKS];
        tape = new Tape();
        course = new Course();
        copy = course.disk;
        inForce = course.laws;
        spare = new Laws();
        reader = new Reader(tape, spare);
        toldLumps = new int[MOST_TOLD];
        toldSteps = new int[MOST_TOLD];
    }

    public boolean rings(int n) {
        if (disk.step != 0 || !isWithin(n, LEAST_RINGS, MOST_RINGS)) {
            return false;
        }
        disk.clear(n);
        return true;
    }

    public boolean ring(int ring, int gas, int warm, int period) {
        if (disk.step != 0 || !disk.isRing(ring) || !isWithin(gas, 0, MOST_AMOUNT)
                || !isWithin(warm, 0, MOST_WARM) || !isWithin(period, 1, MOST_PERIOD)) {
            return false;
        }
        disk.gas[ring] = gas;
        disk.warm[ring] = warm;
        disk.period[ring] = period;
        return true;
    }

    public boolean dust(int ring, int size, int n) {
        if (disk.step != 0 || !disk.isRing(ring) || !isWithin(size, 0, SIZES - 1)
                || !isWithin(n, 0, MOST_AMOUNT)) {
            return false;
        }
        disk.dust[ring * SIZES + size] = n;
        return true;
    }

    public boolean star(int pull, int luck, int share) {
        if (!isWithin(pull, 0, MOST_AMOUNT) || !isWithin(luck, 0, MOST_LUCK)
                || !isWithin(share, 1, NEVER_THROWN)) {
            return false;
        }
        disk.pull = pull;
        course.luck = luck;
        course.share = share;
        return true;
    }

    public boolean seed(int g) {
        if (g < 0) {
            return false;
        }
        disk.seed = g;
        return true;
    }

    public int feed(long a, long b, long c) {
        tape.addBytes(a);
        tape.addBytes(b);
        tape.addBytes(c);
        return tape.length;
    }

    public int laws() {
        int fault = reader.read(spare);
        tape.length = 0;
        if (fault == 0) {
            Laws old = inForce;
            inForce = spare;
            spare = old;
            course.laws = inForce;
            endInForce = 0;
        }
        return fault;
    }

    public boolean end(int bits) {
        if (!isEnd(bits)) {
            return false;
        }
        endInForce = bits;
        return true;
    }

    public int steps(int n) {
        if (!isWithin(n, 1, MOST_STEPS_AT_ONCE) || disk.step + n > MOST_STEP) {
            return NONE;
        }
        course.enter(disk, endInForce);
        course.go(n);
        return disk.step;
    }

    public int has(int ring, int size) throws NoSuchElementException {
        if (!disk.isRing(ring) || !isWithin(size, 0, 7)) {
            throw new NoSuchElementException();
        }
        switch (size) {
            case 5:
                return disk.gas[ring];
            case 6:
                return disk.allDustIn(ring);
            case 7:
                return disk.isTrap(ring) ? 1 : 0;
            default:
                return disk.dust[ring * SIZES + size];
        }
    }

    public int look(int lump, int what) {
        if (!disk.isLump(lump)) {
            return NONE;
        }
        Lump one = disk.lumps[lump];
        switch (what) {
            case 0:
                return one.state;
            case 1:
                return one.ring;
            case 2:
                return one.weight;
            case 3:
                return one.gas;
            case 4:
                return one.familyOf(disk.rings);
            case 5:
                return one.state != THERE ? NONE : disk.isLocked(one) ? 1 : 0;
            case 6:
                return one.eater;
            case 7:
                return one.state != THERE ? NONE : seenOf(one);
            case 8:
                return one.birth;
            case 9:
                return one.waited;
            default:
                return NONE;
        }
    }

    public int made(int lump, int ring) {
        return disk.isLump(lump) && disk.isRing(ring) ? disk.lumps[lump].dustOf[ring] : NONE;
    }

    public long parts(int what) {
        switch (what) {
            case 0:
                return disk.inRings();
            case 1:
                return disk.inLumps();
            case 2:
                return disk.fallen;
            case 3:
                return disk.thrown;
            case 4:
                // Nothing is lost on the way, so what was told is what is anywhere now.
                return disk.inRings() + disk.inLumps() + disk.fallen + disk.thrown;
            default:
                return NONE;
        }
    }

    public int asked(int end, int n, int what, int v) {
        if (!isEnd(end) || !isQuestion(n, what, v)) {
            return NONE;
        }
        return isSoBehind(end, n, what, v) ? 1 : 0;
    }

    public int sure(int n, int what, int v) {
        if (!isQuestion(n, what, v)) {
            return NONE;
        }
        int ends = inForce.howManyEnds();
        int yes = 0;
        for (int bits = 0; bits < ends; bits++) {
            if (isSoBehind(bits, n, what, v)) {
                yes++;
            }
        }
        return yes == ends ? 2 : yes > 0 ? 1 : 0;
    }

    public int empty(int ring, int end) {
        if (!disk.isRing(ring) || !isEnd(end)) {
            return NONE;
        }
        beginTry(end);
        for (int ahead = 0; ahead < MOST_STEPS_TO_EMPTY && copy.allDustIn(ring) > 0; ahead++) {
            course.go(1);
        }
        return copy.allDustIn(ring) == 0 ? copy.step : NONE;
    }

    public int runs(int k, int n, int m) {
        if (!isWithin(k, 1, MOST_RUNS) || !isWithin(n, 0, MOST_STEPS_OF_RUNS)
                || !isWithin(m, NONE, MOST_LUMPS)) {
            return NONE;
        }
        int sum = 0;
        int odds = 0;
        for (int g = 0; g < k; g++) {
            beginTry(endInForce);
            copy.seed = g;
            course.go(n);
            sum += copy.there;
            if (copy.there == m) {
                odds++;
            }
        }
        return m == NONE ? sum : odds;
    }

    public int back() {
        int sum = 0;
        for (int i = 0; i < disk.came; i++) {
            Lump one = disk.lumps[i];
            int seen = one.state == THERE ? seenOf(one) : 0;
            if (seen > 0) {
                sum += PUT_BACK_WHOLE / seen;
            }
        }
        return sum;
    }

    public int told(int lumps, int steps) {
        if (!isWithin(lumps, 0, MOST_LUMPS) || !isWithin(steps, 0, MOST_STEPS_AT_ONCE)
                || toldCounts >= MOST_TOLD) {
            return NONE;
        }
        toldLumps[toldCounts] = lumps;
        toldSteps[toldCounts] = steps;
        toldCounts++;
        return toldCounts - 1;
    }

    public int forget() {
        int were = toldCounts;
        toldCounts = 0;
        return were;
    }

    public int fits(int end) {
        if (!isEnd(end)) {
            return NONE;
        }
        return isFit(end) ? 1 : 0;
    }

    public int barred(int i, int side) {
        if (!isWithin(i, 0, inForce.open - 1) || !isWithin(side, 0, 1)) {
            return NONE;
        }
        int ends = inForce.howManyEnds();
        for (int bits = 0; bits < ends; bits++) {
            if ((bits >> i & 1) == side && isFit(bits)) {
                return 0;
            }
        }
        return 1;
    }

    public boolean mark(int mark, boolean goes) {
        if (!isWithin(mark, 0, MOST_MARKS - 1)) {
            return false;
        }
        Disk held = marks[mark];
        if (goes) {
            if (held == null) {
                return false;
            }
            disk.becomeLike(held);
            return true;
        }
        if (held == null) {
            held = new Disk();
            marks[mark] = held;
        }
        held.becomeLike(disk);
        return true;
    }

    public int count(int what) {
        switch (what) {
            case 0:
                return disk.step;
            case 1:
                return disk.rings;
            case 2:
                return disk.came;
            case 3:
                return disk.there;
            case 4:
                return inForce.size;
            case 5:
                return inForce.open;
            case 6:
                return endInForce;
            case 7:
                return tape.length;
            case 8:
                return toldCounts;
            case 9:
                return disk.howManyTraps();
            case 10:
                return disk.howManyFamilies();
            default:
                return NONE;
        }
    }

    private static boolean isWithin(int n, int least, int most) {
        return least <= n && n <= most;
    }

    private boolean isEnd(int bits) {
        return isWithin(bits, 0, inForce.howManyEnds() - 1);
    }

    private boolean isQuestion(int n, int what, int v) {
        if (!isWithin(n, 0, MOST_STEPS_AT_ONCE)) {
            return false;
        }
        switch (what) {
            case 0:
            case 1:
            case 3:
                return disk.isRing(v);
            case 2:
            case 4:
                return isWithin(v, 0, MOST_NUMBER_ASKED);
            default:
                return false;
        }
    }

    private void beginTry(int bits) {
        copy.becomeLike(disk);
        course.enter(copy, bits);
    }

    private boolean isSoBehind(int bits, int n, int what, int v) {
        beginTry(bits);
        course.go(n);
        switch (what) {
            case 0:
                return copy.allDustIn(v) == 0;
            case 1:
                return copy.hasLumpIn(v);
            case 2:
                return copy.there >= v;
            case 3:
                return copy.hasLumpOfFamily(v);
            default:
                return copy.fallen >= v;
        }
    }

    private int seenOf(Lump one) {
        course.enter(disk, endInForce);
        int seen = course.lawForLump(SEEN, one);
        return seen == NONE ? 0 : seen;
    }

    /** One try serves all told counts, since they differ only in how far ahead they look. */
    private boolean isFit(int bits) {
        int last = 0;
        for (int i = 0; i < toldCounts; i++) {
            last = Math.max(last, toldSteps[i]);
        }
        beginTry(bits);
        for (int ahead = 0; ahead <= last; ahead++) {
            if (ahead > 0) {
                course.go(1);
            }
            for (int i = 0; i < toldCounts; i++) {
                if (toldSteps[i] == ahead && toldLumps[i] != copy.there) {
                    return false;
                }
            }
        }
        return true;
    }

    /** What has gathered; it keeps its number and what is known of it when it is gone. */
    private static final class Lump {
        int state;
        int ring;
        int weight;
        int gas;
        int eater;
        int birth;
        int waited;
        final int[] dustOf;

        Lump() {
            dustOf = new int[MOST_RINGS];
        }

        void begin(int place, int step) {
            state = THERE;
            ring = place;
            weight = 0;
            gas = 0;
            eater = NONE;
            birth = step;
            waited = 0;
            for (int i = 0; i < MOST_RINGS; i++) {
                dustOf[i] = 0;
            }
        }

        void becomeLike(Lump other) {
            state = other.state;
            ring = other.ring;
            weight = other.weight;
            gas = other.gas;
            eater = other.eater;
            birth = other.birth;
            waited = other.waited;
            System.arraycopy(other.dustOf, 0, dustOf, 0, MOST_RINGS);
        }

        boolean isThereIn(int place) {
            return state == THERE && ring == place;
        }

        void takeGas(int n) {
            gas += n;
            weight += n;
        }

        /** Dust is put down to the ring in which the lump is as it takes it. */
        void takeDust(int n) {
            dustOf[ring] += n;
            weight += n;
        }

        /** What the other had taken is still told of it; only lumps that are THERE are counted as parts. */
        void takeAllOf(Lump other) {
            for (int i = 0; i < MOST_RINGS; i++) {
                dustOf[i] += other.dustOf[i];
            }
            gas += other.gas;
            weight += other.weight;
        }

        int familyOf(int rings) {
            int family = NONE;
            int most = 0;
            for (int i = 0; i < rings && i < MOST_RINGS; i++) {
                if (dustOf[i] > most) {
                    most = dustOf[i];
                    family = i;
                }
            }
            return family;
        }
    }

    /** The state that marks hold and that tries copy. */
    private static final class Disk {
        int rings;
        int step;
        int pull;
        long seed;
        int fallen;
        int thrown;
        int came;
        int there;
        final int[] gas;
        final int[] warm;
        final int[] period;
        final int[] dust;
        final Lump[] lumps;

        Disk() {
            gas = new int[MOST_RINGS];
            warm = new int[MOST_RINGS];
            period = new int[MOST_RINGS];
            dust = new int[MOST_RINGS * SIZES];
            lumps = new Lump[MOST_LUMPS];
            for (int i = 0; i < MOST_LUMPS; i++) {
                lumps[i] = new Lump();
            }
            clear(MOST_RINGS);
        }

        void clear(int n) {
            rings = n;
            fallen = 0;
            thrown = 0;
            came = 0;
            there = 0;
            for (int i = 0; i < MOST_RINGS; i++) {
                gas[i] = 0;
                warm[i] = 0;
                period[i] = 100 * (i + 1);
            }
            for (int i = 0; i < MOST_RINGS * SIZES; i++) {
                dust[i] = 0;
            }
        }

        void becomeLike(Disk other) {
            rings = other.rings;
            step = other.step;
            pull = other.pull;
            seed = other.seed;
            fallen = other.fallen;
            thrown = other.thrown;
            came = other.came;
            there = other.there;
            System.arraycopy(other.gas, 0, gas, 0, MOST_RINGS);
            System.arraycopy(other.warm, 0, warm, 0, MOST_RINGS);
            System.arraycopy(other.period, 0, period, 0, MOST_RINGS);
            System.arraycopy(other.dust, 0, dust, 0, MOST_RINGS * SIZES);
            for (int i = 0; i < came; i++) {
                lumps[i].becomeLike(other.lumps[i]);
            }
        }

        boolean isRing(int n) {
            return isWithin(n, 0, rings - 1);
        }

        boolean isLump(int n) {
            return isWithin(n, 0, came - 1);
        }

        int allDustIn(int ring) {
            int at = ring * SIZES;
            return dust[at] + dust[at + 1] + dust[at + 2] + dust[at + 3] + dust[at + 4];
        }

        /** A ring's own number, one less (the STAR below 0) or one more. */
        int wayFrom(int ring) {
            int most = gas[ring];
            int way = ring;
            int inside = ring == 0 ? pull : gas[ring - 1];
            if (inside > most) {
                most = inside;
                way = ring - 1;
            }
            int outside = ring + 1 < rings ? gas[ring + 1] : 0;
            if (outside > most) {
                way = ring + 1;
            }
            return way;
        }

        boolean isTrap(int ring) {
            return wayFrom(ring) == ring;
        }

        int howManyTraps() {
            int traps = 0;
            for (int i = 0; i < rings; i++) {
                if (isTrap(i)) {
                    traps++;
                }
            }
            return traps;
        }

        int howManyFamilies() {
            int families = 0;
            for (int i = 0; i < rings; i++) {
                if (hasLumpOfFamily(i)) {
                    families++;
                }
            }
            return families;
        }

        boolean hasLumpOfFamily(int family) {
            for (int i = 0; i < came; i++) {
                if (lumps[i].state == THERE && lumps[i].familyOf(rings) == family) {
                    return true;
                }
            }
            return false;
        }

        boolean hasLumpIn(int ring) {
            for (int i = 0; i < came; i++) {
                if (lumps[i].isThereIn(ring)) {
                    return true;
                }
            }
            return false;
        }

        boolean isLocked(Lump one) {
            int outer = period[one.ring];
            for (int i = 0; i < came; i++) {
                Lump other = lumps[i];
                if (other.state == THERE && other.ring < one.ring) {
                    int inner = period[other.ring];
                    if (outer == 2 * inner || 2 * outer == 3 * inner) {
                        return true;
                    }
                }
            }
            return false;
        }

        long inRings() {
            long sum = 0;
            for (int i = 0; i < rings; i++) {
                sum += gas[i] + allDustIn(i);
            }
            return sum;
        }

        long inLumps() {
            long sum = 0;
            for (int i = 0; i < came; i++) {
                if (lumps[i].state == THERE) {
                    sum += lumps[i].weight;
                }
            }
            return sum;
        }

        int nextOfSeed() {
            seed = (seed * 1103515245L + 12345L) % 2147483648L;
            return (int) (seed / 65536L);
        }

        boolean mayOneMoreCome() {
            return came < MOST_LUMPS;
        }

        void gatherAll(int ring, int size) {
            Lump one = lumps[came];
            came++;
            there++;
            one.begin(ring, step);
            one.takeDust(dust[ring * SIZES + size]);
            dust[ring * SIZES + size] = 0;
        }

        void moveLump(Lump one, int to) {
            if (to != STAR) {
                one.ring = to;
                return;
            }
            one.state = FALLEN;
            there--;
            fallen += one.weight;
        }
    }

    /** A disk on its way by the laws and one of their ends. */
    private static final class Course {
        Disk disk;
        Laws laws;
        int bits;
        int luck;
        int share;
        final int[] facts;
        final int[] leaving;
        final int[] gaps;

        /** It starts on a disk of its own, which then serves for all tries. */
        Course() {
            disk = new Disk();
            laws = new Laws();
            share = NEVER_THROWN;
            facts = new int[Laws.FACTS];
            leaving = new int[MOST_RINGS * SIZES];
            gaps = new int[MOST_RINGS];
        }

        void enter(Disk where, int end) {
            disk = where;
            bits = end;
        }

        void go(int n) {
            for (int i = 0; i < n; i++) {
                stick();
                breakUp();
                findGaps();
                drift();
                gather();
                feedLumps();
                eatGas();
                wander();
                meet();
                disk.step++;
            }
        }

        private int lawForDust(int kind, int ring, int size) {
            if (laws.hasNone(kind)) {
                return NONE;
            }
            tellOfRing(ring);
            facts[Laws.SIZE] = size;
            facts[Laws.DUST] = disk.dust[ring * SIZES + size];
            facts[Laws.WEIGHT] = 0;
            return laws.numberFor(kind, bits, facts);
        }

        int lawForLump(int kind, Lump one) {
            if (laws.hasNone(kind)) {
                return NONE;
            }
            tellOfRing(one.ring);
            facts[Laws.SIZE] = 0;
            facts[Laws.DUST] = 0;
            facts[Laws.WEIGHT] = one.weight;
            return laws.numberFor(kind, bits, facts);
        }

        private void tellOfRing(int ring) {
            facts[Laws.RING] = ring;
            facts[Laws.GAS] = disk.gas[ring];
            facts[Laws.WARM] = disk.warm[ring];
            facts[Laws.ALL] = disk.allDustIn(ring);
            facts[Laws.STEP] = disk.step;
            facts[Laws.LUMPS] = disk.there;
        }

        private static int shareOf(int amount, int hundredths) {
            return amount * hundredths / 100;
        }

        private void stick() {
            if (laws.hasNone(STICK)) {
                return;
            }
            for (int ring = 0; ring < disk.rings; ring++) {
                for (int size = SIZES - 2; size >= 0; size--) {
                    int at = ring * SIZES + size;
                    // With luck a law that holds takes a number of the seed even where no dust is.
                    if (disk.dust[at] > 0 || luck > 0) {
                        int grown = shareOf(disk.dust[at], luckyNumber(lawForDust(STICK, ring, size)));
                        disk.dust[at] -= grown;
                        disk.dust[at + 1] += grown;
                    }
                }
            }
        }

        private int luckyNumber(int n) {
            if (n == NONE) {
                return 0;
            }
            if (luck == 0) {
                return n;
            }
            int drawn = n + disk.nextOfSeed() % (2 * luck + 1) - luck;
            return Math.max(0, Math.min(100, drawn));
        }

        private void breakUp() {
            if (laws.hasNone(BREAK)) {
                return;
            }
            for (int ring = 0; ring < disk.rings; ring++) {
                for (int size = 1; size < SIZES; size++) {
                    int at = ring * SIZES + size;
                    int n = disk.dust[at] > 0 ? lawForDust(BREAK, ring, size) : NONE;
                    if (n != NONE) {
                        int broken = shareOf(disk.dust[at], n);
                        disk.dust[at] -= broken;
                        disk.dust[ring * SIZES] += broken;
                    }
                }
            }
        }

        /** Of each ring the least size that its lumps hold back; SIZES where they hold back none. */
        private void findGaps() {
            for (int ring = 0; ring < MOST_RINGS; ring++) {
                gaps[ring] = SIZES;
            }
            if (laws.hasNone(GAP) || laws.hasNone(DRIFT)) {
                return;
            }
            for (int i = 0; i < disk.came; i++) {
                Lump one = disk.lumps[i];
                int n = one.state == THERE ? lawForLump(GAP, one) : NONE;
                if (n != NONE && n < gaps[one.ring]) {
                    gaps[one.ring] = n;
                }
            }
        }

        /** All that leaves is found before any of it moves: each ring counts as it was at the begin. */
        private void drift() {
            if (laws.hasNone(DRIFT)) {
                return;
            }
            for (int ring = 0; ring < disk.rings; ring++) {
                int to = disk.wayFrom(ring);
                int held = to < ring && to != STAR ? gaps[to] : SIZES;
                for (int size = 0; size < SIZES; size++) {
                    int at = ring * SIZES + size;
                    boolean stays = to == ring || size >= held || disk.dust[at] == 0;
                    int n = stays ? NONE : lawForDust(DRIFT, ring, size);
                    leaving[at] = n == NONE ? 0 : shareOf(disk.dust[at], n);
                }
            }
            for (int ring = 0; ring < disk.rings; ring++) {
                leave(ring, disk.wayFrom(ring));
            }
        }

        private void leave(int ring, int to) {
            for (int size = 0; size < SIZES; size++) {
                int n = leaving[ring * SIZES + size];
                disk.dust[ring * SIZES + size] -= n;
                if (to == STAR) {
                    disk.fallen += n;
                } else {
                    disk.dust[to * SIZES + size] += n;
                }
            }
        }

        private void gather() {
            if (laws.hasNone(GATHER)) {
                return;
            }
            for (int ring = 0; ring < disk.rings; ring++) {
                for (int size = SIZES - 1; size >= 0; size--) {
                    int amount = disk.dust[ring * SIZES + size];
                    int n = amount > 0 && disk.mayOneMoreCome() ? lawForDust(GATHER, ring, size) : NONE;
                    if (n != NONE && amount >= n) {
                        disk.gatherAll(ring, size);
                    }
                }
            }
        }

        private void feedLumps() {
            for (int i = 0; i < disk.came; i++) {
                Lump one = disk.lumps[i];
                int n = one.state == THERE ? lawForLump(FEED, one) : NONE;
                for (int size = 0; n != NONE && size < SIZES; size++) {
                    int at = one.ring * SIZES + size;
                    int taken = shareOf(disk.dust[at], n);
                    disk.dust[at] -= taken;
                    one.takeDust(taken);
                }
            }
        }

        private void eatGas() {
            for (int i = 0; i < disk.came; i++) {
                Lump one = disk.lumps[i];
                int n = one.state == THERE ? lawForLump(EAT, one) : NONE;
                if (n != NONE) {
                    int taken = shareOf(disk.gas[one.ring], n);
                    disk.gas[one.ring] -= taken;
                    one.takeGas(taken);
                }
            }
        }

        private void wander() {
            for (int i = 0; i < disk.came; i++) {
                Lump one = disk.lumps[i];
                int n = one.state == THERE ? lawForLump(WANDER, one) : NONE;
                if (n != NONE && !disk.isLocked(one)) {
                    one.waited++;
                    if (one.waited >= n) {
                        one.waited = 0;
                        disk.moveLump(one, disk.wayFrom(one.ring));
                    }
                }
            }
        }

        /** Who stays of two always has a less number than the rest, so one pass by numbers is enough. */
        private void meet() {
            for (int ring = 0; ring < disk.rings; ring++) {
                int stays = NONE;
                for (int i = 0; i < disk.came; i++) {
                    if (disk.lumps[i].isThereIn(ring)) {
                        stays = stays == NONE ? i : whoStays(stays, i);
                    }
                }
            }
        }

        private int whoStays(int first, int second) {
            boolean secondHeavier = disk.lumps[second].weight > disk.lumps[first].weight;
            int winner = secondHeavier ? second : first;
            Lump heavier = disk.lumps[winner];
            Lump other = disk.lumps[secondHeavier ? first : second];
            disk.there--;
            if (other.weight * 100 >= heavier.weight * share) {
                other.state = THROWN;
                disk.thrown += other.weight;
            } else {
                other.state = EATEN;
                other.eater = winner;
                heavier.takeAllOf(other);
            }
            return winner;
        }
    }

    /** Laws as they are asked: of each its numbers, and its E as codes in which operands come first. */
    private static final class Laws {
        static final int MOST_LAWS = 24;
        static final int MOST_OPEN = 4;
        static final int KINDS = 9;

        static final int RING = 0;
        static final int SIZE = 1;
        static final int GAS = 2;
        static final int WARM = 3;
        static final int DUST = 4;
        static final int ALL = 5;
        static final int WEIGHT = 6;
        static final int STEP = 7;
        static final int LUMPS = 8;
        static final int FACTS = 9;
        static final int NUMBER = 9;
        static final int NOT = 10;
        static final int AND = 11;
        static final int OR = 12;
        static final int LESS = 13;
        static final int SAME = 14;
        static final int PLUS = 15;
        static final int MINUS = 16;
        static final int TIMES = 17;
        static final int OVER = 18;
        private static final int CODE_BITS = 5;
        private static final int CODE_MASK = 31;
        /** Four joins may wait in each of four levels, and one operand more. */
        private static final int STACK = 32;

        int size;
        int open;
        private int length;
        private final int[] low;
        private final int[] high;
        /** The law's bit in an END; 0 if it is not OPEN. */
        private final int[] openBit;
        private final int[] from;
        private final int[] next;
        private final int[] firstOf;
        private final int[] lastOf;
        private final int[] codes;
        private final int[] stack;

        Laws() {
            low = new int[MOST_LAWS];
            high = new int[MOST_LAWS];
            openBit = new int[MOST_LAWS];
            from = new int[MOST_LAWS + 1];
            next = new int[MOST_LAWS];
            firstOf = new int[KINDS];
            lastOf = new int[KINDS];
            codes = new int[MOST_SIGNS];
            stack = new int[STACK];
            clear();
        }

        void clear() {
            size = 0;
            open = 0;
            length = 0;
            for (int i = 0; i < KINDS; i++) {
                firstOf[i] = NONE;
                lastOf[i] = NONE;
            }
        }

        boolean isFull() {
            return size >= MOST_LAWS;
        }

        int howManyEnds() {
            return 1 << open;
        }

        boolean hasNone(int kind) {
            return firstOf[kind] == NONE;
        }

        void addLaw(int kind, int least, int most) {
            if (isFull()) {
                return;
            }
            low[size] = least;
            high[size] = most;
            openBit[size] = least < most ? 1 << open : 0;
            if (least < most) {
                open++;
            }
            from[size] = length;
            next[size] = NONE;
            if (firstOf[kind] == NONE) {
                firstOf[kind] = size;
            } else {
                next[lastOf[kind]] = size;
            }
            lastOf[kind] = size;
            size++;
            from[size] = length;
        }

        /** The code comes behind the E of the last law. */
        void addCode(int op, int number) {
            if (length < MOST_SIGNS) {
                codes[length] = op + (number << CODE_BITS);
                length++;
                from[size] = length;
            }
        }

        /** N of the first law of the kind that holds. */
        int numberFor(int kind, int bits, int[] facts) {
            int law = firstOf[kind];
            for (int i = 0; i < MOST_LAWS && law != NONE; i++) {
                if (valueOf(law, facts) != 0) {
                    return (bits & openBit[law]) != 0 ? high[law] : low[law];
                }
                law = next[law];
            }
            return NONE;
        }

        private int valueOf(int law, int[] facts) {
            int top = 0;
            int to = from[law + 1];
            for (int at = from[law]; at < to; at++) {
                int code = codes[at];
                int op = code & CODE_MASK;
                if (op <= NUMBER) {
                    if (top < STACK) {
                        stack[top] = op == NUMBER ? code >> CODE_BITS : facts[op];
                        top++;
                    }
                } else if (op == NOT) {
                    if (top > 0) {
                        stack[top - 1] = stack[top - 1] == 0 ? 1 : 0;
                    }
                } else if (top > 1) {
                    top--;
                    stack[top - 1] = join(op, stack[top - 1], stack[top]);
                }
            }
            return top > 0 ? stack[0] : 0;
        }

        private static int join(int op, int a, int b) {
            switch (op) {
                case AND:
                    return a != 0 && b != 0 ? 1 : 0;
                case OR:
                    return a != 0 || b != 0 ? 1 : 0;
                case LESS:
                    return a < b ? 1 : 0;
                case SAME:
                    return a == b ? 1 : 0;
                case PLUS:
                    return a + b;
                case MINUS:
                    return a - b;
                case TIMES:
                    return a * b;
                default:
                    return b == 0 ? 0 : a / b;
            }
        }
    }

    /** Signs that wait to be read. */
    private static final class Tape {
        int length;
        private final char[] signs;

        Tape() {
            signs = new char[MOST_SIGNS];
        }

        /** A place behind the last sign has the sign 0, which no token holds. */
        int signAt(int place) {
            return 0 <= place && place < length ? signs[place] : 0;
        }

        void addBytes(long bytes) {
            for (int shift = 56; shift >= 0; shift -= 8) {
                int sign = (int) (bytes >> shift & 255);
                if ((sign == 10 || isWithin(sign, 32, 126)) && length < MOST_SIGNS) {
                    signs[length] = (char) sign;
                    length++;
                }
            }
        }
    }

    /** Reads a tape from the left, token by token, up to its first fault. */
    private static final class Reader {
        private static final String KINDS = "stick break drift gather feed eat wander gap seen";
        private static final String FACTS = "ring size gas warm dust all weight step lumps";
        private static final int[] LEAST_N = {0, 0, 0, 1, 0, 0, 1, 0, 0};
        private static final int[] MOST_N = {100, 100, 100, 99999, 100, 100, 99, 4, 100};

        private static final int END = 0;
        private static final int WORD = 1;
        private static final int NUMBER = 2;
        private static final int SIGN = 3;
        private static final int WRONG = 4;

        private static final int MISPLACED = 1;
        private static final int NOT_AS_TOLD = 4;
        private static final int TOO_MANY = 5;
        private static final int MOST_LETTERS = 8;
        private static final int MOST_DIGITS = 5;
        private static final int MOST_DEPTH = 4;

        private final Tape tape;
        private Laws into;
        private int fault;
        private int token;
        private int place;
        private int behind;
        private int number;

        Reader(Tape from, Laws to) {
            tape = from;
            into = to;
        }

        int read(Laws to) {
            into = to;
            into.clear();
            fault = 0;
            behind = 0;
            advance();
            for (int i = 0; i <= Laws.MOST_LAWS && fault == 0 && token != END; i++) {
                readLaw();
            }
            return fault;
        }

        private void refuse(int kind) {
            if (fault == 0) {
                fault = kind + 16 * place;
            }
        }

        private static boolean isLetter(int sign) {
            return 'a' <= sign && sign <= 'z';
        }

        private static boolean isDigit(int sign) {
            return '0' <= sign && sign <= '9';
        }

        private void advance() {
            place = behind;
            while (place < tape.length && (tape.signAt(place) == 10 || tape.signAt(place) == 32)) {
                place++;
            }
            behind = place;
            int sign = tape.signAt(place);
            if (place >= tape.length) {
                token = END;
            } else if (isLetter(sign)) {
                takeWord();
            } else if (isDigit(sign)) {
                takeNumber();
            } else {
                behind = place + 1;
                token = "()<=+-*/;".indexOf((char) sign) >= 0 ? SIGN : WRONG;
            }
        }

        private void takeWord() {
            while (behind < tape.length && isLetter(tape.signAt(behind))) {
                behind++;
            }
            token = behind - place <= MOST_LETTERS ? WORD : WRONG;
        }

        private void takeNumber() {
            number = 0;
            while (behind < tape.length && isDigit(tape.signAt(behind))) {
                // A longer one is refused, so what it would come to does not matter.
                number = number * 10 + tape.signAt(behind) - '0';
                behind++;
            }
            token = behind - place <= MOST_DIGITS ? NUMBER : WRONG;
        }

        /** Which of a list's words (a blank between them) the token is. */
        private int wordAmong(String list) {
            if (token != WORD) {
                return NONE;
            }
            int which = 0;
            int from = 0;
            for (int to = 0; to <= list.length(); to++) {
                if (to == list.length() || list.charAt(to) == ' ') {
                    if (isPieceOf(list, from, to)) {
                        return which;
                    }
                    which++;
                    from = to + 1;
                }
            }
            return NONE;
        }

        private boolean isPieceOf(String list, int from, int to) {
            if (to - from != behind - place) {
                return false;
            }
            for (int i = from; i < to; i++) {
                if (list.charAt(i) != tape.signAt(place + i - from)) {
                    return false;
                }
            }
            return true;
        }

        private int signAmong(String list) {
            return token == SIGN ? list.indexOf((char) tape.signAt(place)) : NONE;
        }

        private void expect(boolean isDue) {
            if (isDue) {
                advance();
            } else {
                refuse(MISPLACED);
            }
        }

        private void readLaw() {
            int kind = wordAmong(KINDS);
            if (kind == NONE) {
                refuse(MISPLACED);
                return;
            }
            if (into.isFull()) {
                refuse(TOO_MANY);
                return;
            }
            advance();
            readNumbers(kind);
            if (fault == 0) {
                expect(wordAmong("when") == 0);
            }
            if (fault == 0) {
                readAny(0);
            }
            if (fault == 0) {
                expect(signAmong(";") == 0);
            }
        }

        private void readNumbers(int kind) {
            int low = readN(LEAST_N[kind], MOST_N[kind]);
            int high = low;
            if (fault == 0 && wordAmong("to") == 0) {
                advance();
                if (token == NUMBER && isWithin(number, low + 1, MOST_N[kind])
                        && into.open >= Laws.MOST_OPEN) {
                    refuse(TOO_MANY);
                }
                high = readN(low, MOST_N[kind]);
            }
            if (fault == 0) {
                into.addLaw(kind, low, high);
            }
        }

        private int readN(int least, int most) {
            int n = number;
            if (token != NUMBER) {
                refuse(MISPLACED);
            } else if (!isWithin(n, least, most)) {
                refuse(NOT_AS_TOLD);
            } else {
                advance();
            }
            return n;
        }

        /** E of the document. */
        private void readAny(int depth) {
            readTest(depth);
            for (int i = 0; i < MOST_SIGNS && fault == 0; i++) {
                int which = wordAmong("and or");
                if (which == NONE) {
                    return;
                }
                advance();
                readTest(depth);
                into.addCode(which == 0 ? Laws.AND : Laws.OR, 0);
            }
        }

        private void readTest(int depth) {
            readSum(depth);
            int which = fault == 0 ? signAmong("<=") : NONE;
            if (which != NONE) {
                advance();
                readSum(depth);
                into.addCode(which == 0 ? Laws.LESS : Laws.SAME, 0);
            }
        }

        private void readSum(int depth) {
            readTerm(depth);
            for (int i = 0; i < MOST_SIGNS && fault == 0; i++) {
                int which = signAmong("+-");
                if (which == NONE) {
                    return;
                }
                advance();
                readTerm(depth);
                into.addCode(which == 0 ? Laws.PLUS : Laws.MINUS, 0);
            }
        }

        private void readTerm(int depth) {
            readPart(depth);
            for (int i = 0; i < MOST_SIGNS && fault == 0; i++) {
                int which = signAmong("*/");
                if (which == NONE) {
                    return;
                }
                advance();
                readPart(depth);
                into.addCode(which == 0 ? Laws.TIMES : Laws.OVER, 0);
            }
        }

        private void readPart(int depth) {
            int fact = wordAmong(FACTS);
            boolean isNot = wordAmong("not") == 0;
            boolean opens = signAmong("(") == 0;
            if (token != NUMBER && fact == NONE && !isNot && !opens) {
                refuse(MISPLACED);
            } else if (depth >= MOST_DEPTH) {
                refuse(TOO_MANY);
            } else if (isNot) {
                advance();
                readPart(depth + 1);
                into.addCode(Laws.NOT, 0);
            } else if (opens) {
                advance();
                readAny(depth + 1);
                if (fault == 0) {
                    expect(signAmong(")") == 0);
                }
            } else if (fact != NONE) {
                into.addCode(fact, 0);
                advance();
            } else {
                into.addCode(Laws.NUMBER, number);
                advance();
            }
        }
    }
}
