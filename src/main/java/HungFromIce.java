/** A sea that has ice for a sky and fire for a floor; ../shared/DOC.md says what each call promises. */
public final class HungFromIce {
    public static final int BAD = -1, NO = -2, FULL = -3, NONE = -4;

    private static final String FIRST_SEA = "l4,1,2;l2,3,1;l3,6,1;t0,1,3,5;t6,2,4,2;g0,3,5;";

    private static final int MOST_LETTERS = 200;
    private static final int MOST_NUMBERS = 4;
    private static final int MOST_LEVELS = 8;
    private static final int MOST_PLACES = 24;
    private static final int MOST_TOWNS = 6;
    private static final int MOST_MARKETS = 8;
    private static final int MOST_THINGS_TOLD = 5;
    private static final int MOST_THINGS = 7;
    private static final int MOST_UNDONE = 8;
    private static final int MOST_KEPT = 2;
    private static final int MOST_HEARD = 6;
    private static final int MOST_DRIFTED = 6;
    private static final int MOST_STEPS = 9999;
    private static final int MOST_PRICE = 20;
    private static final int MOST_BEATS = 99;
    private static final int MOST_WARMTH = 9;
    private static final int MOST_WEIGHT = 9;
    private static final int MOST_CURRENT = 6;
    private static final int STILL = 3;
    private static final int LOOKED_AHEAD = 60;
    private static final int SETTLED = 200;
    /** A LEVEL and PLACE in one number is 24 times the LEVEL and the PLACE, as the document counts them. */
    private static final int SPOTS = MOST_LEVELS * MOST_PLACES;
    /** More beats than any way can take, and small enough to be added to. */
    private static final int FAR = 1000000;
    private static final int NOBODY = -1;
    private static final int ALL_TOWNS = -1;

    private final Text text;
    private final Sea sea;
    private final Past undoable;
    private final Past kept;
    private final Drifter one;
    private final Drifter other;
    private final Sound sound;
    private final Hearing hearing;
    private final Moves moves;
    private final Drifts drifts;
    private final long[] odds;
    private Told draft;

    public HungFromIce() {
        text = new Text();
        sea = new Sea();
        undoable = new Past(MOST_UNDONE);
        kept = new Past(MOST_KEPT);
        one = new Drifter(sea);
        other = new Drifter(sea);
        sound = new Sound(sea);
        hearing = new Hearing(sea, sound);
        moves = new Moves(sea, sound);
        drifts = new Drifts();
        odds = new long[MOST_WARMTH + 1];
        draft = new Told();
        for (int i = 0; i < FIRST_SEA.length(); i++) text.add(FIRST_SEA.charAt(i));
        layText();
        text.empty();
    }

    // ---- seas

    public int write(int letter) {
        if (!within(letter, 32, 126)) return BAD;
        if (!text.add(letter)) return FULL;
        return text.length;
    }

    public int wipe() {
        return text.empty();
    }

    public int fault() {
        return text.readInto(draft);
    }

    public int lay() {
        return layText() ? sea.told.levels : NO;
    }

    public int level(int l, int what) {
        if (!sea.isLevel(l)) return BAD;
        switch (what) {
            case 0: return sea.told.current[l];
            case 1: return sea.told.warmth[l];
            case 2: return sea.told.beats[l];
            default: return BAD;
        }
    }

    public int town(int t, int what) {
        if (!sea.isTown(t)) return BAD;
        switch (what) {
            case 0: return sea.told.townLevel[t];
            case 1: return sea.now.townPlace[t];
            case 2: return sea.told.townHas[t];
            case 3: return sea.told.townWants[t];
            case 4: return sea.now.townCut[t] ? 1 : 0;
            default: return BAD;
        }
    }

    public int thing(int g, int what) {
        if (!sea.isThing(g)) return BAD;
        switch (what) {
            case 0: return sea.now.thingLevel[g];
            case 1: return sea.now.thingPlace[g];
            case 2: return sea.now.thingWeight[g];
            case 3: return sea.now.thingBy[g];
            default: return BAD;
        }
    }

    // ---- steps

    public int steps(int n) {
        if (!within(n, 1, LOOKED_AHEAD)) return BAD;
        if (sea.now.gone + n > MOST_STEPS) return NO;
        undoable.push(sea.now);
        for (int g = 0; g < sea.now.things; g++) {
            one.take(g);
            one.passMany(n);
            one.give(g);
        }
        sea.now.gone += n;
        return sea.now.gone;
    }

    public int letGo(int t, int g) {
        if (!sea.isTown(t) || !within(g, 0, MOST_WEIGHT)) return BAD;
        if (sea.now.townCut[t]) return NO;
        if (sea.now.things >= MOST_THINGS) return FULL;
        undoable.push(sea.now);
        return sea.now.addThing(sea.told.townLevel[t], sea.now.townPlace[t], g);
    }

    public int hang(int t, int x) {
        if (!sea.isTown(t) || !sea.isPlace(x)) return BAD;
        int spot = spotOf(sea.told.townLevel[t], x);
        if (sea.now.townCut[t] || !sound.isOpen(spot)) return NO;
        if (sea.townAt(sea.told.townLevel[t], x, NOBODY) != NONE) return NO;
        undoable.push(sea.now);
        int before = sea.now.townPlace[t];
        sea.now.hangTown(t, x);
        return before;
    }

    public int cut(int t) {
        if (!sea.isTown(t)) return BAD;
        if (sea.now.townCut[t]) return NO;
        if (sea.now.things >= MOST_THINGS) return FULL;
        undoable.push(sea.now);
        sea.now.cutTown(t);
        return sea.now.addThing(sea.told.townLevel[t], sea.now.townPlace[t], MOST_WEIGHT);
    }

    public int undo() {
        return undoable.pop(sea.now) ? undoable.amount : NO;
    }

    public int behind(int n, int g, int what) {
        if (!within(n, 0, LOOKED_AHEAD) || !sea.isThing(g) || !within(what, 0, 2)) return BAD;
        one.take(g);
        one.passMany(n);
        if (what == 0) return one.level;
        return what == 1 ? one.place : one.by;
    }

    public int meet(int g, int h) {
        if (!sea.isThing(g) || !sea.isThing(h) || g == h) return BAD;
        one.take(g);
        other.take(h);
        for (int n = 0; n <= LOOKED_AHEAD; n++) {
            if (one.by != NONE || other.by != NONE) return NONE;
            if (one.isWhere(other.level, other.place)) return n;
            one.pass(NOBODY);
            other.pass(NOBODY);
        }
        return NONE;
    }

    public int round(int g) {
        if (!sea.isThing(g)) return BAD;
        one.take(g);
        for (int n = 0; n < SETTLED; n++) one.flow();
        int level = one.level;
        int place = one.place;
        for (int n = 1; n <= SETTLED; n++) {
            one.flow();
            if (one.isWhere(level, place)) return n;
        }
        return NONE;
    }

    // ---- sound

    public int time(int l, int x, int k, int y) {
        if (!sea.isLevel(l) || !sea.isPlace(x) || !sea.isLevel(k) || !sea.isPlace(y)) return BAD;
        int beats = sound.rowFrom(spotOf(l, x)).beatsTo(spotOf(k, y));
        return beats < FAR ? beats : NONE;
    }

    public int hears(int t, int b) {
        if (!sea.isTown(t) || !within(b, 0, MOST_BEATS)) return BAD;
        if (sea.now.townCut[t]) return NO;
        Row row = sound.rowFrom(sea.townSpot(t));
        int bits = 0;
        for (int u = 0; u < sea.told.towns; u++) {
            if (u == t || sea.now.townCut[u]) continue;
            if (row.beatsTo(sea.townSpot(u)) <= b) bits |= 1 << u;
        }
        return bits;
    }

    public int shadow(int t) {
        if (!sea.isTown(t)) return BAD;
        if (sea.now.townCut[t]) return NO;
        Row row = sound.rowFrom(sea.townSpot(t));
        int dark = 0;
        for (int l = 0; l < sea.told.levels; l++) {
            for (int x = 0; x < sea.told.places; x++) {
                int spot = spotOf(l, x);
                if (sound.isOpen(spot) && row.beatsTo(spot) >= FAR) dark++;
            }
        }
        return dark;
    }

    public int heard(int t, int beat) {
        if (!sea.isTown(t) || !within(beat, 0, MOST_BEATS)) return BAD;
        if (sea.now.townCut[t]) return NO;
        if (!hearing.add(t, beat)) return FULL;
        return hearing.amount;
    }

    public int hush() {
        return hearing.empty();
    }

    public int whence(int what) {
        if (!within(what, 0, 1)) return BAD;
        hearing.seek();
        return what == 0 ? hearing.sources : hearing.lowest;
    }

    public int moved(int b, int what) {
        if (!within(b, 0, MOST_BEATS) || !within(what, 0, 2)) return BAD;
        moves.seek(b);
        if (what == 0) return moves.fewest;
        return what == 1 ? moves.lower : moves.upper;
    }

    // ---- what is sent, what is paid

    public int sent(int a, int b, int what) {
        if (!sea.isTown(a) || !sea.isTown(b) || a == b || !within(what, 0, 1)) return BAD;
        if (sea.now.townCut[a] || sea.now.townCut[b]) return NO;
        int best = NONE;
        int fewest = LOOKED_AHEAD + 1;
        for (int weight = 0; weight <= MOST_WEIGHT; weight++) {
            one.put(sea.told.townLevel[a], sea.now.townPlace[a], weight);
            int n = one.passUntilCaught(a);
            if (one.by == b && n < fewest) {
                best = weight;
                fewest = n;
            }
        }
        if (best == NONE) return NONE;
        return what == 0 ? best : fewest;
    }

    public int fall(int t, int what) {
        if (!sea.isTown(t) || !within(what, 0, 1)) return BAD;
        if (sea.now.townCut[t]) return NO;
        one.put(sea.told.townLevel[t], sea.now.townPlace[t], MOST_WEIGHT);
        int n = one.passUntilCaught(t);
        return what == 0 ? one.by : n;
    }

    public int clear(int a, int b) {
        if (!sea.isLevel(a) || !sea.isLevel(b) || b < a) return BAD;
        return clearingPrice(a, b);
    }

    public int gain(int a) {
        if (!sea.isLevel(a) || a < 1) return BAD;
        int deep = clearingPrice(a, sea.told.levels - 1);
        int high = clearingPrice(0, a - 1);
        if (deep == NONE || high == NONE) return NONE;
        return Math.max(0, deep - high);
    }

    // ---- drifts, leaks, years

    public int drifted(int l, int x, int y, int n) {
        if (!sea.isLevel(l) || !sea.isPlace(x) || !sea.isPlace(y) || !within(n, 1, 50)) return BAD;
        if (!drifts.add(l, x, y, n)) return FULL;
        return drifts.amount;
    }

    public int forget() {
        return drifts.empty();
    }

    public int currents(int l) {
        if (!sea.isLevel(l)) return BAD;
        int bits = 0;
        for (int c = 0; c <= MOST_CURRENT; c++) {
            if (drifts.allBy(sea.told, l, c)) bits |= 1 << c;
        }
        return bits;
    }

    public long leak(int l, int k, int n, int x, int part) {
        if (!sea.isLevel(l) || !within(k, 0, MOST_WARMTH) || !within(n, 0, 9)) return BAD;
        if (!within(x, 0, 10) || !within(part, 0, 1)) return BAD;
        spreadOdds(sea.told.warmth[l], n, x);
        long above = 0;
        long below = 0;
        for (int w = 0; w <= MOST_WARMTH; w++) {
            below += odds[w];
            if (w >= k) above += odds[w];
        }
        long common = commonDivisor(below, above);
        if (common < 1) return BAD;
        return part == 0 ? above / common : below / common;
    }

    public int year(int z, int n, int t) {
        if (!within(z, 0, 9999) || !within(n, 1, 60)) return BAD;
        if (t != ALL_TOWNS && !sea.isTown(t)) return BAD;
        if (t != ALL_TOWNS && sea.now.townCut[t]) return NO;
        int caught = 0;
        for (int k = 0; k < n; k++) {
            putDrawn(z, k);
            one.passUntilCaught(NOBODY);
            if (one.by != NONE && (t == ALL_TOWNS || one.by == t)) caught++;
        }
        return caught;
    }

    public int keep() {
        if (kept.amount >= MOST_KEPT) return FULL;
        kept.push(sea.now);
        return kept.amount;
    }

    public int back() {
        if (!kept.pop(sea.now)) return NO;
        undoable.empty();
        return kept.amount;
    }

    public int count(int what) {
        switch (what) {
            case 0: return sea.told.levels;
            case 1: return sea.told.places;
            case 2: return sea.told.towns;
            case 3: return sea.now.things;
            case 4: return sea.now.gone;
            case 5: return hearing.amount;
            case 6: return drifts.amount;
            case 7: return undoable.amount;
            case 8: return kept.amount;
            case 9: return text.length;
            default: return BAD;
        }
    }

    // ---- what the calls share

    private static boolean within(int value, int low, int high) {
        return value >= low && value <= high;
    }

    private static int spotOf(int level, int place) {
        return MOST_PLACES * level + place;
    }

    /** Lays THE TEXT, if it can be; the sea stays as it is if not. */
    private boolean layText() {
        if (text.readInto(draft) != NONE || !draft.holds()) return false;
        Told before = sea.told;
        sea.told = draft;
        draft = before;
        sea.start();
        sound.start();
        hearing.empty();
        drifts.empty();
        undoable.empty();
        kept.empty();
        return true;
    }

    private int clearingPrice(int a, int b) {
        if (!anyTown(a, b)) return NONE;
        for (int price = 0; price <= MOST_PRICE; price++) {
            if (lackAt(price, a, b) <= 0) return price;
        }
        return NONE;
    }

    private boolean anyTown(int a, int b) {
        for (int t = 0; t < sea.told.towns; t++) {
            if (!sea.now.townCut[t] && within(sea.told.townLevel[t], a, b)) return true;
        }
        return false;
    }

    /** What the TOWNS of LEVELS a to b want at a PRICE, less what they have. */
    private int lackAt(int price, int a, int b) {
        int lack = 0;
        for (int t = 0; t < sea.told.towns; t++) {
            if (sea.now.townCut[t] || !within(sea.told.townLevel[t], a, b)) continue;
            lack += Math.max(0, sea.told.townWants[t] - price) - sea.told.townHas[t];
        }
        return lack;
    }

    /** Of ten ways a day: by how many of them each WARMTH is there behind n days. */
    private void spreadOdds(int warmth, int n, int x) {
        for (int w = 0; w <= MOST_WARMTH; w++) odds[w] = w == warmth ? 1 : 0;
        for (int day = 0; day < n; day++) {
            odds[0] = odds[0] * 10 + odds[1] * x;
            for (int w = 1; w <= MOST_WARMTH; w++) {
                long cooled = w < MOST_WARMTH ? odds[w + 1] * x : 0;
                odds[w] = odds[w] * (10 - x) + cooled;
            }
        }
    }

    private static long commonDivisor(long a, long b) {
        for (int turn = 0; b != 0 && turn < 1000; turn++) {
            long rest = a % b;
            a = b;
            b = rest;
        }
        return a;
    }

    private void putDrawn(int z, int k) {
        long x = 7919L * z + 6151L * k + 1;
        int draw = (int) (x * x % 65521);
        if (sea.told.levels < 1) return;
        one.put(draw % sea.told.levels, sea.told.wrap(draw / 8), draw / 256 % 10);
    }

    /** THE TEXT, and how its ITEMS are read. */
    private static final class Text {
        private final int[] letters = new int[MOST_LETTERS];
        private final int[] numbers = new int[MOST_NUMBERS];
        private int numbersRead = 0;
        private int length = 0;

        boolean add(int letter) {
            if (length >= MOST_LETTERS) return false;
            letters[length] = letter;
            length++;
            return true;
        }

        int empty() {
            int before = length;
            length = 0;
            return before;
        }

        /** Where the first ITEM begins that is not so; NONE. */
        int readInto(Told told) {
            told.start();
            int at = 0;
            for (int items = 0; at < length && items < MOST_LETTERS; items++) {
                int next = splitItem(at);
                if (next == NO || !told.addItem(letters[at], numbers, numbersRead)) return at;
                at = next;
            }
            return NONE;
        }

        /** Reads the numbers of the ITEM that begins at a place: where the next one begins; NO. */
        private int splitItem(int start) {
            int at = start + 1;
            for (int i = 0; i < MOST_NUMBERS; i++) {
                int figures = figuresFrom(at);
                if (!within(figures, 1, 2)) return NO;
                numbers[i] = numberFrom(at, figures);
                numbersRead = i + 1;
                at += figures;
                int mark = letterAt(at);
                at++;
                if (mark == ';') return at;
                if (mark != ',') return NO;
            }
            return NO;
        }

        private int figuresFrom(int at) {
            int figures = 0;
            while (figures < MOST_LETTERS && within(letterAt(at + figures), '0', '9')) figures++;
            return figures;
        }

        private int numberFrom(int at, int figures) {
            int number = 0;
            for (int i = 0; i < figures; i++) number = number * 10 + letterAt(at + i) - '0';
            return number;
        }

        private int letterAt(int at) {
            return at >= 0 && at < length ? letters[at] : NONE;
        }
    }

    /** What a TEXT tells, ITEM by ITEM. */
    private static final class Told {
        int places = 12;
        int levels = 0;
        final int[] current = new int[MOST_LEVELS];
        final int[] warmth = new int[MOST_LEVELS];
        final int[] beats = new int[MOST_LEVELS];
        int towns = 0;
        final int[] townLevel = new int[MOST_TOWNS];
        final int[] townPlace = new int[MOST_TOWNS];
        final int[] townHas = new int[MOST_TOWNS];
        final int[] townWants = new int[MOST_TOWNS];
        int markets = 0;
        final int[] marketLevel = new int[MOST_MARKETS];
        final int[] marketPlace = new int[MOST_MARKETS];
        int things = 0;
        final int[] thingLevel = new int[MOST_THINGS_TOLD];
        final int[] thingPlace = new int[MOST_THINGS_TOLD];
        final int[] thingWeight = new int[MOST_THINGS_TOLD];

        void start() {
            places = 12;
            levels = 0;
            towns = 0;
            markets = 0;
            things = 0;
        }

        /** The PLACE that is reached by going on round and round. */
        int wrap(int place) {
            return places > 0 ? Math.floorMod(place, places) : 0;
        }

        boolean addItem(int letter, int[] numbers, int amount) {
            if (numbers.length < MOST_NUMBERS) return false;
            switch (letter) {
                case 'n': return amount == 1 && addPlaces(numbers[0]);
                case 'l': return amount == 3 && addLevel(numbers[0], numbers[1], numbers[2]);
                case 't': return amount == 4 && addTown(numbers[0], numbers[1], numbers[2], numbers[3]);
                case 'm': return amount == 2 && addMarket(numbers[0], numbers[1]);
                case 'g': return amount == 3 && addThing(numbers[0], numbers[1], numbers[2]);
                default: return false;
            }
        }

        private boolean addPlaces(int n) {
            if (levels + towns + markets + things > 0 || !within(n, 4, MOST_PLACES)) return false;
            places = n;
            return true;
        }

        private boolean addLevel(int c, int w, int b) {
            if (levels >= MOST_LEVELS) return false;
            if (!within(c, 0, MOST_CURRENT) || !within(w, 0, MOST_WARMTH) || !within(b, 1, 9)) return false;
            current[levels] = c;
            warmth[levels] = w;
            beats[levels] = b;
            levels++;
            return true;
        }

        private boolean addTown(int x, int l, int s, int d) {
            if (towns >= MOST_TOWNS || !canBeSpot(l, x)) return false;
            if (!within(s, 0, 20) || !within(d, 0, 20)) return false;
            townLevel[towns] = l;
            townPlace[towns] = x;
            townHas[towns] = s;
            townWants[towns] = d;
            towns++;
            return true;
        }

        private boolean addMarket(int l, int x) {
            if (markets >= MOST_MARKETS || !canBeSpot(l, x)) return false;
            marketLevel[markets] = l;
            marketPlace[markets] = x;
            markets++;
            return true;
        }

        private boolean addThing(int l, int x, int g) {
            if (things >= MOST_THINGS_TOLD || !canBeSpot(l, x) || !within(g, 0, MOST_WEIGHT)) return false;
            thingLevel[things] = l;
            thingPlace[things] = x;
            thingWeight[things] = g;
            things++;
            return true;
        }

        /** The LEVEL may be told further on; all PLACES are known, as n comes first. */
        private boolean canBeSpot(int l, int x) {
            return within(l, 0, MOST_LEVELS - 1) && within(x, 0, places - 1);
        }

        /** Whether all that is told, each ITEM being as it should, can be laid together. */
        boolean holds() {
            return levels > 0 && allLevelsThere() && townsApart();
        }

        private boolean allLevelsThere() {
            for (int t = 0; t < towns; t++) if (townLevel[t] >= levels) return false;
            for (int m = 0; m < markets; m++) if (marketLevel[m] >= levels) return false;
            for (int g = 0; g < things; g++) if (thingLevel[g] >= levels) return false;
            return true;
        }

        private boolean townsApart() {
            for (int t = 0; t < towns; t++) {
                for (int u = 0; u < t; u++) {
                    if (townLevel[t] == townLevel[u] && townPlace[t] == townPlace[u]) return false;
                }
                for (int m = 0; m < markets; m++) {
                    if (townLevel[t] == marketLevel[m] && townPlace[t] == marketPlace[m]) return false;
                }
            }
            return true;
        }
    }

    /** What changes with the steps: THINGS, TOWNS, STEPS gone by. */
    private static final class State {
        int gone = 0;
        int things = 0;
        final int[] townPlace = new int[MOST_TOWNS];
        final boolean[] townCut = new boolean[MOST_TOWNS];
        final int[] thingLevel = new int[MOST_THINGS];
        final int[] thingPlace = new int[MOST_THINGS];
        final int[] thingWeight = new int[MOST_THINGS];
        final int[] thingBy = new int[MOST_THINGS];

        void start(Told told) {
            gone = 0;
            things = 0;
            for (int t = 0; t < MOST_TOWNS; t++) {
                townPlace[t] = told.townPlace[t];
                townCut[t] = false;
            }
            for (int g = 0; g < told.things; g++) {
                addThing(told.thingLevel[g], told.thingPlace[g], told.thingWeight[g]);
            }
        }

        void copyFrom(State from) {
            gone = from.gone;
            things = from.things;
            for (int t = 0; t < MOST_TOWNS; t++) {
                townPlace[t] = from.townPlace[t];
                townCut[t] = from.townCut[t];
            }
            for (int g = 0; g < MOST_THINGS; g++) {
                thingLevel[g] = from.thingLevel[g];
                thingPlace[g] = from.thingPlace[g];
                thingWeight[g] = from.thingWeight[g];
                thingBy[g] = from.thingBy[g];
            }
        }

        /** The number of the THING that is there now, CAUGHT by nobody; FULL. */
        int addThing(int level, int place, int weight) {
            if (things >= MOST_THINGS) return FULL;
            thingLevel[things] = level;
            thingPlace[things] = place;
            thingWeight[things] = weight;
            thingBy[things] = NONE;
            things++;
            return things - 1;
        }

        void hangTown(int t, int x) {
            townPlace[t] = x;
            for (int g = 0; g < things; g++) {
                if (thingBy[g] == t) thingPlace[g] = x;
            }
        }

        void cutTown(int t) {
            townCut[t] = true;
            for (int g = 0; g < things; g++) {
                if (thingBy[g] == t) thingBy[g] = NONE;
            }
        }
    }

    /** What is told and how it stands now. */
    private static final class Sea {
        Told told = new Told();
        final State now = new State();

        void start() {
            now.start(told);
        }

        boolean isLevel(int l) {
            return l >= 0 && l < told.levels;
        }

        boolean isPlace(int x) {
            return x >= 0 && x < told.places;
        }

        boolean isTown(int t) {
            return t >= 0 && t < told.towns;
        }

        boolean isThing(int g) {
            return g >= 0 && g < now.things;
        }

        /** Where a TOWN hangs, or hung when it was CUT. */
        int townSpot(int t) {
            return spotOf(told.townLevel[t], now.townPlace[t]);
        }

        /** The TOWN that hangs there, one aside; NONE. */
        int townAt(int level, int place, int aside) {
            for (int t = 0; t < told.towns; t++) {
                if (t == aside || now.townCut[t]) continue;
                if (told.townLevel[t] == level && now.townPlace[t] == place) return t;
            }
            return NONE;
        }
    }

    /** A THING that is followed without the sea being changed by it. */
    private static final class Drifter {
        private final Sea sea;
        int level = 0;
        int place = 0;
        int weight = 0;
        int by = NONE;

        Drifter(Sea sea) {
            this.sea = sea;
        }

        void put(int l, int x, int g) {
            level = l;
            place = x;
            weight = g;
            by = NONE;
        }

        void take(int g) {
            put(sea.now.thingLevel[g], sea.now.thingPlace[g], sea.now.thingWeight[g]);
            by = sea.now.thingBy[g];
        }

        void give(int g) {
            sea.now.thingLevel[g] = level;
            sea.now.thingPlace[g] = place;
            sea.now.thingBy[g] = by;
        }

        boolean isWhere(int l, int x) {
            return level == l && place == x;
        }

        /** A STEP as if there were no TOWNS. */
        void flow() {
            if (!sea.isLevel(level)) return;
            int warmth = sea.told.warmth[level];
            place = sea.told.wrap(place + sea.told.current[level] - STILL);
            if (weight > warmth && sea.isLevel(level + 1)) level++;
            else if (weight < warmth && level > 0) level--;
        }

        /** A STEP in which all TOWNS but one catch. */
        void pass(int aside) {
            if (by != NONE) return;
            flow();
            by = sea.townAt(level, place, aside);
        }

        void passMany(int n) {
            for (int i = 0; i < n && by == NONE; i++) pass(NOBODY);
        }

        /** Behind how many STEPS it is CAUGHT; NONE. */
        int passUntilCaught(int aside) {
            for (int n = 1; n <= LOOKED_AHEAD; n++) {
                pass(aside);
                if (by != NONE) return n;
            }
            return NONE;
        }
    }

    /** The last few states, the oldest one lost where one more is too many. */
    private static final class Past {
        private final State[] states;
        private int oldest = 0;
        int amount = 0;

        Past(int most) {
            states = new State[Math.max(1, most)];
            for (int i = 0; i < states.length; i++) states[i] = new State();
        }

        void empty() {
            oldest = 0;
            amount = 0;
        }

        void push(State now) {
            if (amount >= states.length) {
                oldest = slot(1);
                amount--;
            }
            states[slot(amount)].copyFrom(now);
            amount++;
        }

        boolean pop(State into) {
            if (amount < 1) return false;
            amount--;
            into.copyFrom(states[slot(amount)]);
            return true;
        }

        private int slot(int age) {
            int i = oldest + age;
            return i < states.length ? i : i - states.length;
        }
    }

    /** How many beats SOUND takes from one LEVEL and PLACE to all: FAR, where it never comes. */
    private static final class Row {
        final int[] beats = new int[SPOTS];
        boolean known = false;

        void silence() {
            for (int i = 0; i < SPOTS; i++) beats[i] = FAR;
        }

        int beatsTo(int spot) {
            return spot >= 0 && spot < SPOTS ? beats[spot] : FAR;
        }
    }

    /** How SOUND goes in the sea as laid: TOWNS do not bear on it, so a Row stays good until the next sea. */
    private static final class Sound {
        private final Sea sea;
        private final Row[] rows = new Row[SPOTS];
        private final Row nowhere = new Row();
        private final boolean[] shut = new boolean[SPOTS];

        Sound(Sea sea) {
            this.sea = sea;
            nowhere.silence();
        }

        void start() {
            for (int i = 0; i < SPOTS; i++) {
                shut[i] = false;
                if (rows[i] != null) rows[i].known = false;
            }
            for (int m = 0; m < sea.told.markets; m++) {
                shut[spotOf(sea.told.marketLevel[m], sea.told.marketPlace[m])] = true;
            }
        }

        boolean isOpen(int spot) {
            return spot >= 0 && spot < SPOTS && !shut[spot];
        }

        Row rowFrom(int spot) {
            if (!isOpen(spot)) return nowhere;
            Row row = rows[spot];
            if (row == null) {
                row = new Row();
                rows[spot] = row;
            }
            if (!row.known) fill(row, spot);
            return row;
        }

        private void fill(Row row, int from) {
            int bottom = sea.told.levels - 1;
            int end = sea.told.places - 1;
            row.silence();
            row.beats[from] = 0;
            boolean better = true;
            // each sweep settles one PLACE more of each way, and no way has more PLACES than there are;
            // to and fro, as a way that runs against one sweep runs with the next
            for (int sweep = 0; better && sweep <= SPOTS; sweep++) {
                boolean down = sweep % 2 == 0;
                better = false;
                for (int l = 0; l <= bottom; l++) {
                    for (int x = 0; x <= end; x++) {
                        if (improve(row.beats, down ? l : bottom - l, down ? x : end - x)) better = true;
                    }
                }
            }
            row.known = true;
        }

        /** Whether SOUND comes there sooner by a neighbour than was known. */
        private boolean improve(int[] beats, int l, int x) {
            Told told = sea.told;
            int spot = MOST_PLACES * l + x;
            if (shut[spot]) return false;
            int right = x + 1 < told.places ? spot + 1 : spot - x;
            int left = x > 0 ? spot - 1 : spot + told.places - 1;
            int best = beats[right] < beats[left] ? beats[right] + 1 : beats[left] + 1;
            if (l > 0 && beats[spot - MOST_PLACES] + told.beats[l - 1] < best) {
                best = beats[spot - MOST_PLACES] + told.beats[l - 1];
            }
            if (l + 1 < told.levels && beats[spot + MOST_PLACES] + told.beats[l] < best) {
                best = beats[spot + MOST_PLACES] + told.beats[l];
            }
            if (best >= beats[spot]) return false;
            beats[spot] = best;
            return true;
        }
    }

    /** What was HEARD of one sound, and whence it can have come. */
    private static final class Hearing {
        private final Sea sea;
        private final Sound sound;
        private final int[] towns = new int[MOST_HEARD];
        private final int[] beats = new int[MOST_HEARD];
        int amount = 0;
        int sources = 0;
        int lowest = NONE;

        Hearing(Sea sea, Sound sound) {
            this.sea = sea;
            this.sound = sound;
        }

        boolean add(int t, int beat) {
            if (amount >= MOST_HEARD) return false;
            towns[amount] = t;
            beats[amount] = beat;
            amount++;
            return true;
        }

        int empty() {
            int before = amount;
            amount = 0;
            return before;
        }

        void seek() {
            sources = 0;
            lowest = NONE;
            for (int l = 0; l < sea.told.levels; l++) {
                for (int x = 0; x < sea.told.places; x++) {
                    int spot = spotOf(l, x);
                    if (!sound.isOpen(spot) || !canBeSource(spot)) continue;
                    if (lowest == NONE) lowest = spot;
                    sources++;
                }
            }
        }

        /** Whether one beat there agrees with all that was HEARD, by the TOWNS as they hang now. */
        private boolean canBeSource(int spot) {
            int begun = 0;
            for (int i = 0; i < amount; i++) {
                // a way takes as long back as forth, so the few rows of the TOWNS serve for all
                int taken = sound.rowFrom(sea.townSpot(towns[i])).beatsTo(spot);
                if (taken >= FAR) return false;
                if (i > 0 && beats[i] - taken != begun) return false;
                begun = beats[i] - taken;
            }
            return true;
        }
    }

    /** How few TOWNS are to be HUNG elsewhere so that all hear all. */
    private static final class Moves {
        private final Sea sea;
        private final Sound sound;
        private final int[] spots = new int[MOST_TOWNS];
        private final Row[] rows = new Row[MOST_TOWNS];
        private int most = 0;
        int fewest = NONE;
        int lower = NONE;
        int upper = NONE;

        Moves(Sea sea, Sound sound) {
            this.sea = sea;
            this.sound = sound;
        }

        void seek(int beats) {
            most = beats;
            fewest = NONE;
            lower = NONE;
            upper = NONE;
            for (int t = 0; t < sea.told.towns; t++) hangAt(t, sea.townSpot(t));
            if (allHear(NOBODY)) fewest = 0;
            else if (seekOne()) fewest = 1;
            else if (seekTwo()) fewest = 2;
        }

        private void hangAt(int t, int spot) {
            spots[t] = spot;
            rows[t] = sound.rowFrom(spot);
        }

        private boolean seekOne() {
            lower = seekAbove(NOBODY);
            return lower != NONE;
        }

        private boolean seekTwo() {
            for (int t = 0; t < sea.told.towns; t++) {
                if (!sea.now.townCut[t] && seekWith(t)) return true;
            }
            return false;
        }

        /** Hangs t at each free PLACE, then a TOWN of a higher number elsewhere. */
        private boolean seekWith(int t) {
            int home = spots[t];
            for (int x = 0; x < sea.told.places; x++) {
                if (!isFree(t, x)) continue;
                hangAt(t, spotOf(sea.told.townLevel[t], x));
                upper = seekAbove(t);
                hangAt(t, home);
                if (upper == NONE) continue;
                lower = MOST_PLACES * t + x;
                return true;
            }
            return false;
        }

        /** The first TOWN above t, and PLACE, by which all hear all, as 24 times the TOWN and the PLACE; NONE. */
        private int seekAbove(int t) {
            for (int u = t + 1; u < sea.told.towns; u++) {
                if (sea.now.townCut[u] || !allHear(u)) continue;
                int x = placeFor(u);
                if (x != NONE) return MOST_PLACES * u + x;
            }
            return NONE;
        }

        private int placeFor(int u) {
            for (int x = 0; x < sea.told.places; x++) {
                if (isFree(u, x) && allHearAt(u, spotOf(sea.told.townLevel[u], x))) return x;
            }
            return NONE;
        }

        private boolean isFree(int t, int x) {
            int spot = spotOf(sea.told.townLevel[t], x);
            if (!sound.isOpen(spot)) return false;
            for (int u = 0; u < sea.told.towns; u++) {
                if (!sea.now.townCut[u] && spots[u] == spot) return false;
            }
            return true;
        }

        /** Whether all TOWNS hear one another, one aside. */
        private boolean allHear(int aside) {
            for (int t = 1; t < sea.told.towns; t++) {
                if (t == aside || sea.now.townCut[t]) continue;
                for (int u = 0; u < t; u++) {
                    if (u == aside || sea.now.townCut[u]) continue;
                    if (beatsFrom(u, spots[t]) > most) return false;
                }
            }
            return true;
        }

        private boolean allHearAt(int t, int spot) {
            for (int u = 0; u < sea.told.towns; u++) {
                if (u == t || sea.now.townCut[u]) continue;
                if (beatsFrom(u, spot) > most) return false;
            }
            return true;
        }

        private int beatsFrom(int t, int spot) {
            Row row = rows[t];
            return row != null && spot >= 0 && spot < SPOTS ? row.beats[spot] : FAR;
        }
    }

    /** What is known to have DRIFTED. */
    private static final class Drifts {
        private final int[] levels = new int[MOST_DRIFTED];
        private final int[] starts = new int[MOST_DRIFTED];
        private final int[] ends = new int[MOST_DRIFTED];
        private final int[] lengths = new int[MOST_DRIFTED];
        int amount = 0;

        boolean add(int l, int x, int y, int n) {
            if (amount >= MOST_DRIFTED) return false;
            levels[amount] = l;
            starts[amount] = x;
            ends[amount] = y;
            lengths[amount] = n;
            amount++;
            return true;
        }

        int empty() {
            int before = amount;
            amount = 0;
            return before;
        }

        boolean allBy(Told told, int l, int c) {
            for (int i = 0; i < amount; i++) {
                if (levels[i] != l) continue;
                if (told.wrap(starts[i] + lengths[i] * (c - STILL)) != ends[i]) return false;
            }
            return true;
        }
    }
}
