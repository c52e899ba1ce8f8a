/** A block of flats on one boiler: who is warm, through whose walls, and who pays for it. */
public final class WarmthShared {
    private static final int BEYOND = -1000000001;
    private static final int FULL = -1000000002;
    private static final int KIND = -1000000003;
    private static final int NONE = -1000000004;
    private static final int STATE = -1000000005;
    private static final int MISSING = -1000000006;
    private static final int SIZE = -1000000007;
    private static final int FINDINGS = 7;

    private static final int MOST_HOURS = 2000;
    private static final int LEAST_OUTSIDE = -300;
    private static final int MOST_OUTSIDE = 400;
    private static final int MOST_PUMP = 999;
    private static final int MOST_BOILER = 900;
    private static final int RISERS = 4;
    private static final int MOST_FLATS = 12;
    private static final int MOST_WALL = 99;
    private static final int MOST_OPEN = 8;
    private static final int MOST_DRIFT = 200;

    private static final int KIND_FLAT = 0;
    private static final int KIND_ROOF = 1;
    private static final int KIND_CELLAR = 2;
    private static final int KIND_EMPTY = 3;
    private static final int KIND_CORNER = 4;
    private static final int KIND_LET = 5;
    private static final int KINDS = 6;
    /** The kind that each kind is under; -1: under none. */
    private static final int[] UNDER = {-1, KIND_FLAT, KIND_FLAT, KIND_FLAT, KIND_ROOF, KIND_EMPTY};

    private static final int MOST_BYTES = 80;
    private static final int MOST_BRACKETS = 4;
    private static final int MOST_DIGITS = 4;
    private static final String NAMES = "utgwkfrp";
    private static final int MOST_PRICE = 9999;
    private static final int MOST_SHARE = 99999;

    private static final int COLD = 1;
    private static final int HOT = 2;
    private static final int BOUND = 1000;
    private static final int MOST_COMPLAINTS = 24;
    private static final int JOINING_HOURS = 3;

    private static final int SHEETS = 4;
    private static final int MOST_NUMBERS = 40;

    private final State state = new State();
    private final State kept = new State();
    private boolean isKept = false;
    private final Block block = state.block;
    private final Complaints complaints = state.complaints;
    private final Text rule = state.rule;
    private final Text tape = new Text();
    private final RuleReader ruleReader = new RuleReader(rule);
    private final RuleReader tapeReader = new RuleReader(tape);
    private final Split split = new Split();
    private final Course course = new Course();
    private final FewTurns fewTurns = new FewTurns(block, course);
    private final Sheets sheets = new Sheets();
    private final int[] findings = new int[FINDINGS];

    public WarmthShared() {
    }

    // ---- flats

    public int flat(int kind, int riser, int wall) {
        if (!within(kind, 0, KINDS - 1) || !within(riser, 0, RISERS - 1) || !within(wall, 1, MOST_WALL)) {
            return finding(BEYOND);
        }
        if (block.size >= MOST_FLATS) {
            return finding(FULL);
        }
        return block.add(kind, riser, wall);
    }

    public int of(int flat, int what) {
        if (!block.has(flat)) {
            return finding(BEYOND);
        }
        Flat f = block.flats[flat];
        switch (what) {
            case 0: return f.kind;
            case 1: return f.riser;
            case 2: return f.place;
            case 3: return f.wall;
            case 4: return f.open;
            case 5: return bit(f.isHeld);
            case 6: return bit(f.isWindowOpen);
            case 7: return f.warm;
            case 8: return f.leaks(f.wall);
            case 9: return f.takes(f.open);
            case 10: return block.flow(flat);
            case 11: return f.used;
            case 12: return f.taken;
            case 13: return f.gift;
            case 14: return f.drift;
            default: return finding(BEYOND);
        }
    }

    public int as(int flat, int kind) {
        if (!block.has(flat) || !within(kind, 0, KINDS - 1)) {
            return finding(BEYOND);
        }
        Flat f = block.flats[flat];
        if (!isUnder(f.kind, kind)) {
            return finding(KIND);
        }
        return f.leaks(f.wall);
    }

    public int set(int what, int v) {
        if (what == 0 && within(v, LEAST_OUTSIDE, MOST_OUTSIDE)) {
            int was = block.outside;
            block.outside = v;
            return was;
        }
        if (what == 1 && within(v, 0, MOST_PUMP)) {
            int was = block.pump;
            block.pump = v;
            return was;
        }
        if (what == 2 && within(v, 0, MOST_BOILER)) {
            int was = block.boiler;
            block.boiler = v;
            return was;
        }
        return finding(BEYOND);
    }

    public int turn(int flat, int v) {
        if (!block.has(flat) || !within(v, 0, MOST_OPEN)) {
            return finding(BEYOND);
        }
        Flat f = block.flats[flat];
        if (f.isHeld) {
            return finding(STATE);
        }
        int was = f.open;
        f.open = v;
        return was;
    }

    public int hold(int flat, boolean is) {
        if (!block.has(flat)) {
            return finding(BEYOND);
        }
        Flat f = block.flats[flat];
        boolean was = f.isHeld;
        f.isHeld = is;
        return bit(was);
    }

    public int window(int flat, boolean is) {
        if (!block.has(flat)) {
            return finding(BEYOND);
        }
        Flat f = block.flats[flat];
        boolean was = f.isWindowOpen;
        f.isWindowOpen = is;
        return bit(was);
    }

    public int drift(int flat, int v) {
        if (!block.has(flat) || !within(v, 0, MOST_DRIFT)) {
            return finding(BEYOND);
        }
        Flat f = block.flats[flat];
        int was = f.drift;
        f.drift = v;
        return was;
    }

    public int hours(int n) {
        if (!within(n, 1, 100)) {
            return finding(BEYOND);
        }
        if (block.now + n > MOST_HOURS) {
            return finding(STATE);
        }
        course.begin(block);
        for (int i = 0; i < n; i++) {
            block.live(course);
        }
        return block.now;
    }

    public int riser(int riser) {
        if (!within(riser, 0, RISERS - 1)) {
            return finding(BEYOND);
        }
        int set = 0;
        for (int i = 0; i < block.size; i++) {
            if (block.flats[i].riser == riser) {
                set |= 1 << i;
            }
        }
        return set;
    }

    // ---- bills

    public int feed(int bytes, int n) {
        if (!within(n, 1, 4)) {
            return finding(BEYOND);
        }
        if (tape.size + n > MOST_BYTES) {
            return finding(FULL);
        }
        for (int i = n - 1; i >= 0; i--) {
            tape.append(bytes >>> (8 * i) & 255);
        }
        return tape.size;
    }

    public int wipe() {
        int had = tape.size;
        tape.size = 0;
        return had;
    }

    public int rule() {
        int fault = tapeReader.check();
        if (fault >= 0) {
            return -1 - fault;
        }
        rule.become(tape);
        tape.size = 0;
        return 0;
    }

    public int plain() {
        int was = bit(isRuled());
        rule.size = 0;
        return was;
    }

    public int share(int flat) {
        if (!block.has(flat)) {
            return finding(BEYOND);
        }
        return isRuled() ? ruledShare(flat) : plainShare(flat);
    }

    public int bill(int price, int flat) {
        if (!within(price, 0, MOST_PRICE) || !block.has(flat)) {
            return finding(BEYOND);
        }
        splitByShares(price, isRuled());
        if (split.nobodyPays()) {
            return finding(NONE);
        }
        return split.pays(flat);
    }

    public int other(int price, int flat) {
        if (!within(price, 0, MOST_PRICE) || !block.has(flat)) {
            return finding(BEYOND);
        }
        splitByShares(price, isRuled());
        if (split.nobodyPays()) {
            return finding(NONE);
        }
        int pays = split.pays(flat);
        splitByShares(price, false);
        if (split.nobodyPays()) {
            return finding(NONE);
        }
        return split.pays(flat) - pays;
    }

    public int meters(int what) {
        if (!within(what, 0, 1)) {
            return finding(BEYOND);
        }
        if (what == 0) {
            return block.usedOfAll() - block.takenOfAll();
        }
        if (block.size == 0) {
            return finding(NONE);
        }
        return block.farthestMeter();
    }

    // ---- what is felt, turns

    public int felt(int flat, int bounds) {
        if (!block.has(flat) || !areBounds(bounds)) {
            return finding(BEYOND);
        }
        return feeling(block.flats[flat].warm, bounds);
    }

    public int even(int bounds, int n) {
        if (!areBounds(bounds) || !within(n, 0, 50)) {
            return finding(BEYOND);
        }
        course.begin(block);
        course.go(n);
        int set = 0;
        for (int i = 0; i < block.size; i++) {
            if (feeling(course.warm[i], bounds) == 0) {
                set |= 1 << i;
            }
        }
        return set;
    }

    public int foretold(int flat, int n) {
        if (!block.has(flat) || !within(n, 0, 100)) {
            return finding(BEYOND);
        }
        course.begin(block);
        course.go(n);
        return course.warm[flat];
    }

    public int few(int bounds, int n, int what) {
        if (!areBounds(bounds) || !within(n, 1, 8) || !within(what, 0, 4)) {
            return finding(BEYOND);
        }
        if (!fewTurns.seek(bounds, n)) {
            return finding(NONE);
        }
        return fewTurns.tell(what);
    }

    public int setback(int boiler, int n) {
        if (!within(boiler, 0, MOST_BOILER) || !within(n, 1, 50)) {
            return finding(BEYOND);
        }
        course.begin(block);
        int asItIs = course.go(n);
        course.boiler = boiler;
        return asItIs - course.go(n);
    }

    public int works(int flat, int wall, int n) {
        if (!block.has(flat) || !within(wall, 1, MOST_WALL) || !within(n, 1, 50)) {
            return finding(BEYOND);
        }
        course.begin(block);
        int asItIs = course.go(n);
        course.leaks[flat] = block.flats[flat].leaks(wall);
        return asItIs - course.go(n);
    }

    // ---- complaints

    public int complain(int flat, int sort) {
        if (!block.has(flat) || !within(sort, COLD, HOT)) {
            return finding(BEYOND);
        }
        if (complaints.size >= MOST_COMPLAINTS) {
            return finding(FULL);
        }
        return complaints.add(block, flat, sort);
    }

    public int complaint(int k, int what) {
        if (!within(k, 0, complaints.size - 1)) {
            return finding(BEYOND);
        }
        switch (what) {
            case 0: return complaints.flat[k];
            case 1: return complaints.sort[k];
            case 2: return complaints.hour[k];
            case 3: return complaints.group[k];
            default: return finding(BEYOND);
        }
    }

    public int joined(int a, int b) {
        if (!within(a, 0, complaints.size - 1) || !within(b, 0, complaints.size - 1)) {
            return finding(BEYOND);
        }
        return bit(complaints.group[a] == complaints.group[b]);
    }

    public int groups(int sort) {
        if (!within(sort, 0, HOT)) {
            return finding(BEYOND);
        }
        return complaints.groupsOf(sort);
    }

    // ---- sheets

    public int sheet(int s, int bits, int n) {
        if (!isSheet(s) || bits != 0 && bits != 8 && bits != 16 && bits != 64) {
            return finding(BEYOND);
        }
        if (n < 0) {
            return finding(SIZE);
        }
        if (n > MOST_NUMBERS) {
            return finding(BEYOND);
        }
        sheets.lay(s, bits, n);
        return sheets.size[s];
    }

    public long write(int s, int i, long v) {
        if (!isSheet(s)) {
            return finding(BEYOND);
        }
        if (sheets.isMissing(s)) {
            return finding(MISSING);
        }
        if (!within(i, 0, sheets.size[s] - 1)) {
            return finding(BEYOND);
        }
        long was = sheets.numbers[s][i];
        sheets.numbers[s][i] = lowest(v, sheets.bits[s]);
        return was;
    }

    public int copy(int s, int from, int t, int to, int n) {
        if (!isSheet(s) || !isSheet(t)) {
            return finding(BEYOND);
        }
        if (sheets.isMissing(s) || sheets.isMissing(t)) {
            return finding(MISSING);
        }
        if (sheets.bits[s] != sheets.bits[t]) {
            return finding(KIND);
        }
        if (!sheets.hasPart(s, from, n) || !sheets.hasPart(t, to, n)) {
            return finding(BEYOND);
        }
        System.arraycopy(sheets.numbers[s], from, sheets.numbers[t], to, n);
        return n;
    }

    public int weather(int s) {
        if (!isSheet(s)) {
            return finding(BEYOND);
        }
        if (sheets.isMissing(s)) {
            return finding(MISSING);
        }
        int went = 0;
        for (int i = 0; i < sheets.size[s] && block.now < MOST_HOURS; i++) {
            long number = sheets.numbers[s][i];
            if (number >= LEAST_OUTSIDE && number <= MOST_OUTSIDE) {
                block.outside = (int) number;
                course.begin(block);
                block.live(course);
                went++;
            }
        }
        return went;
    }

    public int read(int s) {
        if (!isSheet(s)) {
            return finding(BEYOND);
        }
        if (sheets.isMissing(s)) {
            return finding(MISSING);
        }
        for (int i = 0; i < sheets.size[s]; i++) {
            if (!block.has(i) || sheets.numbers[s][i] != block.flats[i].warm) {
                return 1 + i;
            }
        }
        return 0;
    }

    // ---- images

    public int image() {
        kept.become(state);
        isKept = true;
        return 1;
    }

    public int undo() {
        if (!isKept) {
            return finding(NONE);
        }
        state.become(kept);
        return block.now;
    }

    public int tear() {
        int was = bit(isKept);
        isKept = false;
        return was;
    }

    public int count(int what) {
        switch (what) {
            case 0: return block.now;
            case 1: return block.size;
            case 2: return block.heldOfAll();
            case 3: return complaints.size;
            case 4: return tape.size;
            case 5: return block.usedOfAll();
            case 6: return block.takenOfAll();
            case 7: return block.highestRiser();
            case 8: return block.flowOfAll();
            default: return finding(BEYOND);
        }
    }

    public int status(int which) {
        if (!within(which, -1, FINDINGS - 1)) {
            return finding(BEYOND);
        }
        if (which >= 0) {
            return findings[which];
        }
        int all = 0;
        for (int i = 0; i < FINDINGS; i++) {
            all += findings[i];
        }
        return all;
    }

    // ---- what the calls share

    private int finding(int answer) {
        int which = BEYOND - answer;
        if (within(which, 0, FINDINGS - 1)) {
            findings[which]++;
        }
        return answer;
    }

    private boolean isRuled() {
        // no TEXT is empty, so an empty one stands for no RULE
        return rule.size > 0;
    }

    private int ruledShare(int flat) {
        return Math.max(0, Math.min(MOST_SHARE, ruleReader.value(block, flat)));
    }

    private int plainShare(int flat) {
        return Math.min(MOST_SHARE, block.flats[flat].used);
    }

    private void splitByShares(int price, boolean byRule) {
        split.begin(price);
        for (int i = 0; i < block.size; i++) {
            split.add(byRule ? ruledShare(i) : plainShare(i));
        }
    }

    private static boolean isSheet(int s) {
        return within(s, 0, SHEETS - 1);
    }

    private static boolean within(int v, int least, int most) {
        return v >= least && v <= most;
    }

    private static int bit(boolean is) {
        return is ? 1 : 0;
    }

    private static boolean areBounds(int bounds) {
        return within(bounds, 0, BOUND * BOUND - 1);
    }

    /** Where LEAST is above MOST, a WARM may be both: then it counts as COLD, which is told first. */
    private static int feeling(int warm, int bounds) {
        if (warm < bounds / BOUND) {
            return COLD;
        }
        return warm > bounds % BOUND ? HOT : 0;
    }

    private static boolean isUnder(int kind, int above) {
        int k = kind;
        for (int i = 0; i < KINDS && within(k, 0, KINDS - 1); i++) {
            if (k == above) {
                return true;
            }
            k = UNDER[k];
        }
        return false;
    }

    private static long lowest(long v, int bits) {
        if (bits == 8) {
            return (byte) v;
        }
        return bits == 16 ? (short) v : v;
    }

    /** All that an image keeps. */
    private static final class State {
        final Block block = new Block();
        final Text rule = new Text();
        final Complaints complaints = new Complaints();

        void become(State s) {
            block.become(s.block);
            rule.become(s.rule);
            complaints.become(s.complaints);
        }
    }

    private static final class Flat {
        int kind;
        int riser;
        int place;
        int wall;
        int open;
        boolean isHeld;
        boolean isWindowOpen;
        int warm;
        int used;
        /** TRUE of the document. */
        int taken;
        int gift;
        int drift;

        void becomeNew(int newKind, int newRiser, int newPlace, int newWall) {
            kind = newKind;
            riser = newRiser;
            place = newPlace;
            wall = newWall;
            open = 4;
            isHeld = false;
            isWindowOpen = false;
            warm = 200;
            used = 0;
            taken = 0;
            gift = 0;
            drift = 100;
        }

        void become(Flat f) {
            becomeNew(f.kind, f.riser, f.place, f.wall);
            open = f.open;
            isHeld = f.isHeld;
            isWindowOpen = f.isWindowOpen;
            warm = f.warm;
            used = f.used;
            taken = f.taken;
            gift = f.gift;
            drift = f.drift;
        }

        int leaks(int byWall) {
            return leaksShut(byWall) + (isWindowOpen ? 100 : 0);
        }

        private int leaksShut(int byWall) {
            int roof = byWall + byWall / 2;
            switch (kind) {
                case KIND_ROOF: return roof;
                case KIND_CELLAR: return byWall - byWall / 3 + 1;
                case KIND_CORNER: return roof + 20;
                default: return byWall;
            }
        }

        int takes(int byOpen) {
            int empty = Math.min(byOpen, 2);
            switch (kind) {
                case KIND_EMPTY: return empty;
                case KIND_LET: return empty + 1;
                default: return byOpen;
            }
        }

        boolean isRightAboveOrBelow(Flat f) {
            return riser == f.riser && Math.abs(place - f.place) == 1;
        }

        boolean isBeside(Flat f) {
            return place == f.place && Math.abs(riser - f.riser) == 1;
        }
    }

    private static final class Block {
        final Flat[] flats = new Flat[MOST_FLATS];
        int size = 0;
        /** How many FLATS are on each RISER. */
        final int[] heights = new int[RISERS];
        int now = 0;
        int outside = 50;
        int pump = 100;
        int boiler = 600;

        Block() {
            for (int i = 0; i < MOST_FLATS; i++) {
                flats[i] = new Flat();
            }
        }

        void become(Block b) {
            size = b.size;
            for (int i = 0; i < MOST_FLATS; i++) {
                flats[i].become(b.flats[i]);
            }
            for (int i = 0; i < RISERS; i++) {
                heights[i] = b.heights[i];
            }
            now = b.now;
            outside = b.outside;
            pump = b.pump;
            boiler = b.boiler;
        }

        boolean has(int flat) {
            return within(flat, 0, size - 1);
        }

        int add(int kind, int riser, int wall) {
            flats[size].becomeNew(kind, riser, heights[riser], wall);
            heights[riser]++;
            size++;
            return size - 1;
        }

        int weight(int flat, int open) {
            Flat f = flats[flat];
            int above = heights[f.riser] - 1 - f.place;
            return Math.max(0, 10 * f.takes(open) - 2 * above);
        }

        int flow(int flat) {
            int all = 0;
            for (int i = 0; i < size; i++) {
                all += weight(i, flats[i].open);
            }
            return flowOf(pump, weight(flat, flats[flat].open), all);
        }

        static int flowOf(int pump, int weight, int allWeights) {
            return allWeights == 0 ? 0 : pump * weight / allWeights;
        }

        /** An HOUR goes on a course that has begun with this block as it is. */
        void live(Course course) {
            course.goHour();
            for (int i = 0; i < size; i++) {
                Flat f = flats[i];
                f.warm = course.warm[i];
                f.used += course.in[i] * f.drift / 100;
                f.taken += course.in[i];
                f.gift += course.through[i];
            }
            now++;
        }

        int usedOfAll() {
            int all = 0;
            for (int i = 0; i < size; i++) {
                all += flats[i].used;
            }
            return all;
        }

        int takenOfAll() {
            int all = 0;
            for (int i = 0; i < size; i++) {
                all += flats[i].taken;
            }
            return all;
        }

        int heldOfAll() {
            int all = 0;
            for (int i = 0; i < size; i++) {
                all += bit(flats[i].isHeld);
            }
            return all;
        }

        int flowOfAll() {
            int all = 0;
            for (int i = 0; i < size; i++) {
                all += flow(i);
            }
            return all;
        }

        int highestRiser() {
            int highest = 0;
            for (int i = 1; i < RISERS; i++) {
                if (heights[i] > heights[highest]) {
                    highest = i;
                }
            }
            return highest;
        }

        int farthestMeter() {
            int farthest = 0;
            int by = -1;
            for (int i = 0; i < size; i++) {
                int off = Math.abs(flats[i].used - flats[i].taken);
                if (off > by) {
                    farthest = i;
                    by = off;
                }
            }
            return farthest;
        }
    }

    /** How warmth goes from a block as it is, hour by hour, without a change to the block. */
    private static final class Course {
        int size;
        int boiler;
        int outside;
        int pump;
        final int[] warmAtFirst = new int[MOST_FLATS];
        final int[] warm = new int[MOST_FLATS];
        final int[] leaks = new int[MOST_FLATS];
        final int[] weight = new int[MOST_FLATS];
        final int[] flow = new int[MOST_FLATS];
        final int[] in = new int[MOST_FLATS];
        final int[] through = new int[MOST_FLATS];
        /** Pairs of FLATS that share a wall: a FLAT shares at most four. */
        final int[] oneSide = new int[4 * MOST_FLATS];
        final int[] otherSide = new int[4 * MOST_FLATS];
        int walls;

        void begin(Block b) {
            size = b.size;
            boiler = b.boiler;
            outside = b.outside;
            pump = b.pump;
            walls = 0;
            for (int i = 0; i < size; i++) {
                Flat f = b.flats[i];
                warmAtFirst[i] = f.warm;
                leaks[i] = f.leaks(f.wall);
                weight[i] = b.weight(i, f.open);
                for (int k = 0; k < i; k++) {
                    if (f.isRightAboveOrBelow(b.flats[k]) || f.isBeside(b.flats[k])) {
                        addWall(k, i);
                    }
                }
            }
            restart();
        }

        private void addWall(int one, int another) {
            if (walls < oneSide.length) {
                oneSide[walls] = one;
                otherSide[walls] = another;
                walls++;
            }
        }

        /** Back to the beginning, with FLOW by the WEIGHTS as they are told now. */
        void restart() {
            int all = 0;
            for (int i = 0; i < size; i++) {
                all += weight[i];
            }
            for (int i = 0; i < size; i++) {
                warm[i] = warmAtFirst[i];
                flow[i] = Block.flowOf(pump, weight[i], all);
            }
        }

        /** Goes n hours from the beginning: what IN was, of all. */
        int go(int n) {
            restart();
            int all = 0;
            for (int i = 0; i < n; i++) {
                goHour();
                for (int k = 0; k < size; k++) {
                    all += in[k];
                }
            }
            return all;
        }

        void goHour() {
            for (int i = 0; i < size; i++) {
                in[i] = flow[i] * Math.max(0, boiler - warm[i]) / 1000;
                through[i] = 0;
            }
            for (int i = 0; i < walls; i++) {
                int one = oneSide[i];
                int another = otherSide[i];
                int to = (warm[another] - warm[one]) / 20;
                through[one] += to;
                through[another] -= to;
            }
            for (int i = 0; i < size; i++) {
                int out = leaks[i] * (warm[i] - outside) / 1000;
                warm[i] += in[i] - out + through[i];
            }
        }

        boolean isAllEven(int bounds) {
            for (int i = 0; i < size; i++) {
                if (feeling(warm[i], bounds) != 0) {
                    return false;
                }
            }
            return true;
        }
    }

    /** Seeks the first turns of at most two valves with which nobody is COLD or HOT. */
    private static final class FewTurns {
        private final Block block;
        private final Course course;
        /** OPEN of each FLAT then; -1: it stays as it is. */
        private final int[] newOpen = new int[MOST_FLATS];
        private int bounds;
        private int hours;

        FewTurns(Block block, Course course) {
            this.block = block;
            this.course = course;
        }

        boolean seek(int newBounds, int newHours) {
            bounds = newBounds;
            hours = newHours;
            course.begin(block);
            for (int i = 0; i < MOST_FLATS; i++) {
                newOpen[i] = -1;
            }
            return isGood() || seekOne() || seekTwo();
        }

        private boolean seekOne() {
            for (int i = 0; i < block.size; i++) {
                if (!block.flats[i].isHeld && isOneEnough(i)) {
                    return true;
                }
            }
            return false;
        }

        private boolean seekTwo() {
            // the greater FLAT goes outside: so lesser sets, as bits, come first
            for (int greater = 1; greater < block.size; greater++) {
                for (int lesser = 0; lesser < greater; lesser++) {
                    boolean isHeld = block.flats[lesser].isHeld || block.flats[greater].isHeld;
                    if (!isHeld && areTwoEnough(lesser, greater)) {
                        return true;
                    }
                }
            }
            return false;
        }

        /** Whether a turn of one FLAT's valve is enough, the others as they are told now. */
        private boolean isOneEnough(int flat) {
            int was = block.flats[flat].open;
            for (int open = 0; open <= MOST_OPEN; open++) {
                if (open != was) {
                    newOpen[flat] = open;
                    course.weight[flat] = block.weight(flat, open);
                    if (isGood()) {
                        return true;
                    }
                }
            }
            newOpen[flat] = -1;
            course.weight[flat] = block.weight(flat, was);
            return false;
        }

        /** Whether turns of two FLATS' valves are enough: with each of the lesser one's all of the greater one's. */
        private boolean areTwoEnough(int lesser, int greater) {
            int was = block.flats[lesser].open;
            for (int open = 0; open <= MOST_OPEN; open++) {
                if (open != was) {
                    newOpen[lesser] = open;
                    course.weight[lesser] = block.weight(lesser, open);
                    if (isOneEnough(greater)) {
                        return true;
                    }
                }
            }
            newOpen[lesser] = -1;
            course.weight[lesser] = block.weight(lesser, was);
            return false;
        }

        private boolean isGood() {
            course.restart();
            for (int i = 0; i < hours; i++) {
                course.goHour();
            }
            return course.isAllEven(bounds);
        }

        /** Of what has been found: 0 VISITS, 1 the set, 2 turns, 3 and 4 the new OPEN of each. */
        int tell(int what) {
            int visits = 0;
            int set = 0;
            int turns = 0;
            int lesserOpen = -1;
            int greaterOpen = -1;
            for (int i = 0; i < block.size; i++) {
                if (newOpen[i] >= 0) {
                    visits++;
                    set |= 1 << i;
                    turns += Math.abs(newOpen[i] - block.flats[i].open);
                    if (visits == 1) {
                        lesserOpen = newOpen[i];
                    } else {
                        greaterOpen = newOpen[i];
                    }
                }
            }
            switch (what) {
                case 0: return visits;
                case 1: return set;
                case 2: return turns;
                case 3: return lesserOpen;
                default: return greaterOpen;
            }
        }
    }

    /** Bytes, at most 80: THE TAPE, or THE RULE. */
    private static final class Text {
        final int[] bytes = new int[MOST_BYTES];
        int size = 0;

        void append(int oneByte) {
            if (size < MOST_BYTES) {
                bytes[size] = oneByte;
                size++;
            }
        }

        void become(Text t) {
            for (int i = 0; i < t.size; i++) {
                bytes[i] = t.bytes[i];
            }
            size = t.size;
        }
    }

    /** Reads a text as E and works out its value on the way. */
    private static final class RuleReader {
        private final Text text;
        /** What the NAMES stand for, in their order. */
        private final int[] values = new int[8];
        private int at;
        private int fault;

        RuleReader(Text text) {
            this.text = text;
        }

        /** The FAULT of the text, -1 without one. */
        int check() {
            at = 0;
            fault = -1;
            readSum(0);
            if (at < text.size) {
                fail();
            }
            return fault;
        }

        /** What a text without a fault says of a FLAT. */
        int value(Block block, int flat) {
            Flat f = block.flats[flat];
            values[0] = f.used;
            values[1] = f.taken;
            values[2] = f.gift;
            values[3] = f.wall;
            values[4] = f.kind;
            values[5] = flat;
            values[6] = f.riser;
            values[7] = f.place;
            at = 0;
            fault = -1;
            return readSum(0);
        }

        /** The byte that comes next; -1 at the end, and behind a fault, so that all reading stops. */
        private int next() {
            return fault < 0 && at < text.size ? text.bytes[at] : -1;
        }

        private void fail() {
            if (fault < 0) {
                fault = at;
            }
        }

        private void expect(int sign) {
            if (next() == sign) {
                at++;
            } else {
                fail();
            }
        }

        private int readSum(int depth) {
            int value = readProduct(depth);
            for (int i = 0; i < MOST_BYTES; i++) {
                int sign = next();
                if (sign != '+' && sign != '-') {
                    break;
                }
                at++;
                int more = readProduct(depth);
                value = sign == '+' ? value + more : value - more;
            }
            return value;
        }

        private int readProduct(int depth) {
            int value = readFactor(depth);
            for (int i = 0; i < MOST_BYTES; i++) {
                int sign = next();
                if (sign != '*' && sign != '/') {
                    break;
                }
                at++;
                int by = readFactor(depth);
                value = sign == '*' ? value * by : quotient(value, by);
            }
            return value;
        }

        private static int quotient(int value, int by) {
            return by == 0 ? 0 : value / by;
        }

        private int readFactor(int depth) {
            int sign = next();
            if (isDigit(sign)) {
                return readNumber();
            }
            if (sign == '(' && depth < MOST_BRACKETS) {
                return readBracket(depth + 1);
            }
            if (sign == '[' && depth < MOST_BRACKETS) {
                return readChoice(depth + 1);
            }
            int name = sign < 0 ? -1 : NAMES.indexOf((char) sign);
            if (!within(name, 0, values.length - 1)) {
                fail();
                return 0;
            }
            at++;
            return values[name];
        }

        private int readNumber() {
            int number = 0;
            for (int i = 0; i < MOST_DIGITS && isDigit(next()); i++) {
                number = 10 * number + next() - '0';
                at++;
            }
            return number;
        }

        private static boolean isDigit(int sign) {
            return sign >= '0' && sign <= '9';
        }

        private int readBracket(int depth) {
            at++;
            int value = readSum(depth);
            expect(')');
            return value;
        }

        private int readChoice(int depth) {
            at++;
            int asked = readSum(depth);
            expect('?');
            int yes = readSum(depth);
            expect(':');
            int no = readSum(depth);
            expect(']');
            return asked != 0 ? yes : no;
        }
    }

    /** A bill's PRICE, split in whole coins by SHARES. */
    private static final class Split {
        private final int[] shares = new int[MOST_FLATS];
        private int size;
        private int price;
        private int allShares;

        void begin(int newPrice) {
            price = newPrice;
            size = 0;
            allShares = 0;
        }

        void add(int newShare) {
            if (size < MOST_FLATS) {
                shares[size] = newShare;
                allShares += newShare;
                size++;
            }
        }

        boolean nobodyPays() {
            return allShares <= 0;
        }

        int pays(int flat) {
            if (allShares <= 0 || !within(flat, 0, size - 1)) {
                return 0;
            }
            int left = price;
            int servedFirst = 0;
            int own = price * shares[flat] % allShares;
            for (int i = 0; i < size; i++) {
                int rest = price * shares[i] % allShares;
                left -= price * shares[i] / allShares;
                if (rest > own || rest == own && i < flat) {
                    servedFirst++;
                }
            }
            // fewer coins are left than there are rests above 0, so nobody gets two of them
            return price * shares[flat] / allShares + bit(servedFirst < left);
        }
    }

    private static final class Complaints {
        final int[] flat = new int[MOST_COMPLAINTS];
        final int[] sort = new int[MOST_COMPLAINTS];
        final int[] hour = new int[MOST_COMPLAINTS];
        /** The least COMPLAINT that each is joined with. */
        final int[] group = new int[MOST_COMPLAINTS];
        int size = 0;

        void become(Complaints c) {
            for (int i = 0; i < c.size; i++) {
                flat[i] = c.flat[i];
                sort[i] = c.sort[i];
                hour[i] = c.hour[i];
                group[i] = c.group[i];
            }
            size = c.size;
        }

        int add(Block block, int newFlat, int newSort) {
            int k = size;
            flat[k] = newFlat;
            sort[k] = newSort;
            hour[k] = block.now;
            group[k] = k;
            size++;
            for (int i = 0; i < k; i++) {
                if (isNear(block, i, k)) {
                    merge(group[i], group[k]);
                }
            }
            return k;
        }

        private boolean isNear(Block block, int a, int b) {
            if (sort[a] != sort[b] || Math.abs(hour[a] - hour[b]) > JOINING_HOURS) {
                return false;
            }
            return flat[a] == flat[b] || block.flats[flat[a]].isRightAboveOrBelow(block.flats[flat[b]]);
        }

        private void merge(int a, int b) {
            int least = Math.min(a, b);
            for (int i = 0; i < size; i++) {
                if (group[i] == a || group[i] == b) {
                    group[i] = least;
                }
            }
        }

        /** Sort 0: of both sorts. */
        int groupsOf(int ofSort) {
            int groups = 0;
            for (int i = 0; i < size; i++) {
                if (group[i] == i && (ofSort == 0 || sort[i] == ofSort)) {
                    groups++;
                }
            }
            return groups;
        }
    }

    private static final class Sheets {
        final long[][] numbers = new long[SHEETS][MOST_NUMBERS];
        /** 0: MISSING. */
        final int[] bits = new int[SHEETS];
        final int[] size = new int[SHEETS];

        boolean isMissing(int s) {
            return bits[s] == 0;
        }

        void lay(int s, int newBits, int n) {
            bits[s] = newBits;
            size[s] = newBits == 0 ? 0 : n;
            for (int i = 0; i < size[s]; i++) {
                numbers[s][i] = 0;
            }
        }

        boolean hasPart(int s, int from, int n) {
            // by a difference, for a sum could go round
            return from >= 0 && n >= 0 && from <= size[s] && n <= size[s] - from;
        }
    }
}
