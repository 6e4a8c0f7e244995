import java.util.Arrays;

/**
 * Even on both sides: mules, their loads and the doors they go to. The document DOC.md tells what
 * each call promises; words in capitals in the comments here are that document's terms.
 */
public final class EvenSides {
    public static final int NONE = -1, BAD = -2, NO = -3, FULL = -4;

    private static final int DOORS = 5, PLACES = 6, MULES = 3, SIDES = 6, LOADS = 10;
    private static final int PILE = 3, BYTES = 240, TEXTS = 2, IMAGES = 2;

    /* Calls whose answers may be as low as BAD and NO themselves are refused with these. */
    private static final int LOW_BAD = -10, LOW_NO = -20, NO_SUCH = -5;

    private static final int HOUSE = 0;
    private static final int STONE_WEIGHS = 0, LIFT = 1;

    /* What a MULE's row and a LOAD's row hold, in the order in which the digest takes them. */
    private static final int MOST = 0, EVEN = 1, LONG = 2, BEARS = 3, MULE_ROW = 5;
    private static final int WEIGHT = 0, HARD = 1, FROM = 2, TO = 3, ASKED = 4, DRAIN = 5, CODE = 6;
    private static final int LOAD_ROW = 7;

    /* The WORDS that begin ITEMS: those of TEXT 0, then those of TEXT 1. */
    private static final int MULE_WORD = 0, LOAD_WORD = 1, DOOR_WORD = 2, WAY_WORD = 3;
    private static final int LAME_WORD = 4, FORD_WORD = 5, ASK_WORD = 6, DRAIN_WORD = 7;
    private static final int STONES_WORD = 8, HANG_WORD = 9, TAKE_WORD = 10, OVER_WORD = 11;
    private static final int SWAP_WORD = 12, STONE_WORD = 13, DROP_WORD = 14, GO_WORD = 15;
    private static final int WORDS = 16;

    private static final int ON_A_MULE = 10;
    private static final int MOST_HANGINGS = 5000, MOST_UNSURE = 6;
    private static final int MOST_STONES = 99, LEG_STONES = 9;
    private static final int BEST_MILES = 10;

    /* Above every UNEVEN, every number of STONES and every number of LIFTINGS. */
    private static final int ENDLESS = 1000000;

    private final Told now = new Told();
    private final Told spare = new Told();
    private final Told[] images = {new Told(), new Told()};
    private final boolean[] kept = new boolean[IMAGES];
    private final Reader reader = new Reader(now);
    private final Acts acts = new Acts(now, reader);
    private final Legs legs = new Legs(now);
    private final Scales scales = new Scales(now, legs);
    private final Routes routes = new Routes(now, legs, scales);
    private final Layers layers = new Layers(now, legs);
    private final Alone aloneOrders = new Alone(now);
    private long above = 0, below = 1;

    public EvenSides() {
    }

    // ---- a day

    public int door() {
        return now.addDoor();
    }

    public int way(int a, int b, int miles) {
        return now.setWay(a, b, miles);
    }

    public int ford(int door) {
        return now.addFord(door);
    }

    public int stones(int place, int n) {
        return now.setStones(place, n);
    }

    public int mule(int most, int even, int longest) {
        return now.addMule(most, even, longest);
    }

    public int lame(int mule, int side, int bears) {
        return now.setBears(mule, side, bears);
    }

    public int load(int weight, int hard, int from, int to) {
        return now.addLoad(weight, hard, from, to);
    }

    public int ask(int load, int asked) {
        return now.setOfLoad(load, ASKED, asked, 100);
    }

    public int drain(int load, int drain) {
        return now.setOfLoad(load, DRAIN, drain, 9);
    }

    public int put(int what, int v) {
        return now.setNumber(what, v);
    }

    // ---- texts

    public int type(int text, long v, int n) {
        return now.addBytes(text, v, n);
    }

    public int clear(int text) {
        if (!between(text, 0, TEXTS - 1)) return BAD;
        int had = now.bytes[text];
        now.bytes[text] = 0;
        return had;
    }

    public int fault(int text) {
        if (!between(text, 0, TEXTS - 1)) return BAD;
        return reader.read(text);
    }

    public int day() {
        int wrong = reader.read(0);
        if (wrong != NONE) return -10 - wrong;
        spare.take(now);
        now.beginDay();
        for (int i = 0; i < reader.items; i++) {
            if (now.tell(reader.word[i], reader.number[i]) < 0) {
                now.take(spare);
                return -1000 - i;
            }
        }
        return reader.items;
    }

    public int run(int what) {
        if (!between(what, 0, 5)) return BAD;
        if (!acts.perform()) return NO;
        switch (what) {
            case 0: return acts.right;
            case 1: return acts.wrong;
            case 2: return acts.miles;
            case 3: return acts.minutes;
            case 4: return acts.place;
            default: return acts.done();
        }
    }

    public int side(int mule, int side, int what) {
        if (!now.isSide(mule, side) || !between(what, 0, 3)) return LOW_BAD;
        if (!acts.perform()) return LOW_NO;
        int code = 2 * mule + side;
        switch (what) {
            case 0: return acts.borneBy(code);
            case 1: return acts.high[code];
            case 2: return acts.topOf(code);
            default: return acts.stonesOn[code];
        }
    }

    public int where(int load) {
        if (!now.isLoad(load)) return BAD;
        if (!acts.perform()) return NO;
        return acts.at[load];
    }

    // ---- evenly

    public int halves(int loads, int what) {
        if (!now.areLoads(loads) || !between(what, 0, 2)) return BAD;
        int least = ENDLESS, ways = 0, first = 0, ones = 0;
        for (int k = 0; k < 1 << LOADS; k++) {
            int uneven = now.unevenHalves(loads, ones);
            if (uneven < least) {
                least = uneven;
                ways = 0;
                first = ones;
            }
            if (uneven == least) ways++;
            if (ones == loads) break;
            ones = nextPart(loads, ones);
        }
        return what == 0 ? least : what == 1 ? ways : first;
    }

    public int within(int loads, int e) {
        if (!now.areLoads(loads) || !between(e, 0, 99)) return BAD;
        int fewest = ENDLESS, ones = 0;
        for (int k = 0; k < 1 << LOADS; k++) {
            int uneven = now.unevenHalves(loads, ones);
            fewest = Math.min(fewest, stonesFor(uneven, e, now.numbers[STONE_WEIGHS]));
            if (ones == loads) break;
            ones = nextPart(loads, ones);
        }
        return fewest > MOST_STONES ? NONE : fewest;
    }

    public int hang(int load, int mule, int side) {
        boolean none = mule == NONE;
        if (!now.isLoad(load) || !(none || now.isMule(mule)) || !between(side, 0, 1)) return LOW_BAD;
        int was = now.load[load][CODE];
        now.load[load][CODE] = none ? NONE : 2 * mule + side;
        return was;
    }

    public int line(int door) {
        if (!now.isDoor(door)) return BAD;
        if (now.lined >= DOORS || now.isInLine(door)) return NO;
        now.line[now.lined] = door;
        now.lined++;
        return now.lined;
    }

    public int unline() {
        int had = now.lined;
        now.lined = 0;
        return had;
    }

    public int borne() {
        if (!now.allHung()) return NO;
        return weighTold() ? 1 : 0;
    }

    public int worst() {
        if (!now.allHung()) return NO;
        weighTold();
        return scales.greatestUneven();
    }

    public int longer() {
        if (!now.allHung()) return NO;
        weighTold();
        return scales.unevenMiles();
    }

    public int stays(int what) {
        if (what != NONE && !now.isLoad(what)) return LOW_BAD;
        if (now.tooManyHangings()) return LOW_NO;
        legs.follow(now.line, now.lined);
        if (!scales.seekEvenest(ENDLESS)) return NO_SUCH;
        return what == NONE ? scales.least : scales.found[what];
    }

    public int best(int what) {
        if (what != NONE && what != BEST_MILES && !between(what, 0, now.lined - 1)) return LOW_BAD;
        if (now.tooManyHangings()) return LOW_NO;
        if (!routes.seek()) return NO_SUCH;
        if (what == NONE) return routes.least;
        return what == BEST_MILES ? routes.miles : routes.first[what];
    }

    public int liftings() {
        if (!now.allHung()) return NO;
        legs.follow(now.line, now.lined);
        return layers.fewestLiftings();
    }

    public int fewest() {
        if (!now.allHung()) return NO;
        weighTold();
        int all = 0;
        for (int m = 0; m < now.mules; m++) {
            int stones = scales.fewestStones(m);
            if (stones == NONE) return NONE;
            all += stones;
        }
        return all;
    }

    public int chance() {
        if (!now.allHung()) return NO;
        legs.follow(now.line, now.lined);
        if (legs.unsure() > MOST_UNSURE) return NO;
        scales.hangTold();
        setFraction(scales.chanceOfRow(), legs.wholeChance());
        return 1;
    }

    public int keep(int load) {
        if (!now.isLoad(load)) return LOW_BAD;
        legs.follow(now.line, now.lined);
        if (now.tooManyHangings() || legs.unsure() > MOST_UNSURE) return LOW_NO;
        if (!scales.seekLikeliest()) return NO_SUCH;
        setFraction(scales.likeliest, legs.wholeChance());
        return scales.found[load];
    }

    public int alone(int mule, int t, int what) {
        if (!now.isMule(mule) || !between(t, 0, 999) || what < NONE) return LOW_BAD;
        if (!now.allHung()) return LOW_NO;
        int many = aloneOrders.find(mule, t);
        if (what == NONE) return many;
        return many > 0 ? aloneOrders.inFirst(what) : NO_SUCH;
    }

    // ---- what there is

    public long part(int what) {
        if (!between(what, 0, 1)) return -1;
        return what == 0 ? above : below;
    }

    public int image(int i) {
        if (!between(i, 0, IMAGES - 1)) return BAD;
        images[i].take(now);
        kept[i] = true;
        return 1;
    }

    public int from(int i) {
        if (!between(i, 0, IMAGES - 1)) return BAD;
        if (!kept[i]) return NO;
        now.take(images[i]);
        return 1;
    }

    public int count(int what) {
        return now.howMany(what);
    }

    public long digest() {
        long h = now.mixPlaces(now.mixCounts(503));
        h = mixRows(h, now.mule, now.mules);
        h = mixRows(h, now.load, now.loads);
        h = mixRow(h, now.numbers, now.numbers.length);
        h = mixRow(h, now.line, now.lined);
        for (int t = 0; t < TEXTS; t++) {
            h = mixRow(h, now.text[t], now.bytes[t]);
        }
        return 31 * (31 * h + above) + below;
    }

    private boolean weighTold() {
        legs.follow(now.line, now.lined);
        return scales.hangTold();
    }

    private void setFraction(long up, long down) {
        long shared = sharedDivisor(up, down);
        if (shared < 1) return;
        above = up / shared;
        below = down / shared;
    }

    private static boolean between(int v, int least, int greatest) {
        return v >= least && v <= greatest;
    }

    private static long sharedDivisor(long a, long b) {
        // Euclid's rests halve every two steps, so that 200 are more than a long can need.
        for (int k = 0; k < 200 && b != 0; k++) {
            long rest = a % b;
            a = b;
            b = rest;
        }
        return a;
    }

    /** The next greater part of some bits: the borrow runs over the bits that are not among them. */
    private static int nextPart(int bits, int part) {
        return (part - bits) & bits;
    }

    /** The fewest STONES on the lighter SIDE, ENDLESS if a STONE is too heavy to come within e. */
    private static int stonesFor(int uneven, int e, int stone) {
        if (uneven <= e) return 0;
        if (stone < 1) return ENDLESS;
        int n = (uneven - e + stone - 1) / stone;
        return n * stone - uneven <= e ? n : ENDLESS;
    }

    private static long mixRow(long h, int[] row, int many) {
        for (int i = 0; i < many && i < row.length; i++) {
            h = 31 * h + row[i];
        }
        return h;
    }

    private static long mixRows(long h, int[][] rows, int many) {
        for (int i = 0; i < many && i < rows.length; i++) {
            h = mixRow(h, rows[i], rows[i].length);
        }
        return h;
    }

    /** All that an IMAGE keeps: the day, the NUMBERS, the HANGING, THE LINE, the TEXTS. */
    private static final class Told {
        int doors, mules, loads, lined;
        final int[][] miles = new int[PLACES][PLACES];
        final int[] fords = new int[PLACES];
        final int[] stonesAt = new int[PLACES];
        final int[][] mule = new int[MULES][MULE_ROW];
        final int[][] load = new int[LOADS][LOAD_ROW];
        final int[] numbers = {5, 2};
        final int[] line = new int[DOORS];
        final int[][] text = new int[TEXTS][BYTES];
        final int[] bytes = new int[TEXTS];

        Told() {
            beginDay();
        }

        void beginDay() {
            doors = 0;
            mules = 0;
            loads = 0;
            lined = 0;
            for (int p = 0; p < PLACES; p++) {
                Arrays.fill(miles[p], 1);
            }
            Arrays.fill(fords, 0);
            Arrays.fill(stonesAt, 0);
        }

        void take(Told other) {
            doors = other.doors;
            mules = other.mules;
            loads = other.loads;
            lined = other.lined;
            takeRows(other.miles, miles);
            takeRow(other.fords, fords);
            takeRow(other.stonesAt, stonesAt);
            takeRows(other.mule, mule);
            takeRows(other.load, load);
            takeRow(other.numbers, numbers);
            takeRow(other.line, line);
            takeRows(other.text, text);
            takeRow(other.bytes, bytes);
        }

        private static void takeRow(int[] from, int[] to) {
            System.arraycopy(from, 0, to, 0, Math.min(from.length, to.length));
        }

        private static void takeRows(int[][] from, int[][] to) {
            for (int i = 0; i < from.length && i < to.length; i++) {
                takeRow(from[i], to[i]);
            }
        }

        boolean isPlace(int p) {
            return between(p, HOUSE, doors);
        }

        boolean isDoor(int d) {
            return between(d, 1, doors);
        }

        boolean isInLine(int d) {
            for (int i = 0; i < lined; i++) {
                if (line[i] == d) return true;
            }
            return false;
        }

        boolean isMule(int m) {
            return between(m, 0, mules - 1);
        }

        boolean isSide(int m, int s) {
            return isMule(m) && between(s, 0, 1);
        }

        boolean isLoad(int l) {
            return between(l, 0, loads - 1);
        }

        boolean areLoads(int bits) {
            return between(bits, 1, (1 << loads) - 1);
        }

        int addDoor() {
            if (doors >= DOORS) return FULL;
            doors++;
            return doors;
        }

        int setWay(int a, int b, int far) {
            if (!isPlace(a) || !isPlace(b) || a == b || !between(far, 1, 99)) return BAD;
            int was = miles[a][b];
            miles[a][b] = far;
            miles[b][a] = far;
            return was;
        }

        int addFord(int d) {
            if (!isDoor(d)) return BAD;
            if (fords[d] == 1) return NO;
            fords[d] = 1;
            return 1;
        }

        int setStones(int p, int n) {
            if (!isPlace(p) || !between(n, 0, 9)) return BAD;
            int was = stonesAt[p];
            stonesAt[p] = n;
            return was;
        }

        int addMule(int most, int even, int longest) {
            if (!between(most, 1, 999) || !between(even, 0, 99) || !between(longest, 0, 99)) return BAD;
            if (mules >= MULES) return FULL;
            int[] row = mule[mules];
            row[MOST] = most;
            row[EVEN] = even;
            row[LONG] = longest;
            row[BEARS] = 999;
            row[BEARS + 1] = 999;
            mules++;
            return mules - 1;
        }

        int setBears(int m, int s, int bears) {
            if (!isSide(m, s) || !between(bears, 0, 999)) return BAD;
            int was = mule[m][BEARS + s];
            mule[m][BEARS + s] = bears;
            return was;
        }

        int addLoad(int weight, int hard, int from, int to) {
            if (!between(weight, 1, 99) || !between(hard, 0, 1)) return BAD;
            if (!isPlace(from) || !isPlace(to) || from == to) return BAD;
            if (loads >= LOADS) return FULL;
            int[] row = load[loads];
            row[WEIGHT] = weight;
            row[HARD] = hard;
            row[FROM] = from;
            row[TO] = to;
            row[ASKED] = 100;
            row[DRAIN] = 0;
            row[CODE] = NONE;
            loads++;
            return loads - 1;
        }

        int setOfLoad(int l, int what, int v, int greatest) {
            if (!isLoad(l) || !between(v, 0, greatest)) return BAD;
            int was = load[l][what];
            load[l][what] = v;
            return was;
        }

        int setNumber(int what, int v) {
            if (!between(what, STONE_WEIGHS, LIFT)) return BAD;
            if (!between(v, 1, what == STONE_WEIGHS ? 20 : 9)) return BAD;
            int was = numbers[what];
            numbers[what] = v;
            return was;
        }

        int addBytes(int t, long v, int n) {
            if (!between(t, 0, TEXTS - 1) || !between(n, 1, 8)) return BAD;
            if (bytes[t] + n > BYTES) return FULL;
            for (int i = n - 1; i >= 0; i--) {
                text[t][bytes[t]] = (int) (v >>> (8 * i)) & 255;
                bytes[t]++;
            }
            return bytes[t];
        }

        /** An ITEM of TEXT 0 does as its call; what it answers is below 0 if it is refused. */
        int tell(int word, int[] n) {
            switch (word) {
                case MULE_WORD: return addMule(n[0], n[1], n[2]);
                case LOAD_WORD: return addLoad(n[0], n[1], n[2], n[3]);
                case DOOR_WORD: return addDoor();
                case WAY_WORD: return setWay(n[0], n[1], n[2]);
                case LAME_WORD: return setBears(n[0], n[1], n[2]);
                case FORD_WORD: return addFord(n[0]);
                case ASK_WORD: return setOfLoad(n[0], ASKED, n[1], 100);
                case DRAIN_WORD: return setOfLoad(n[0], DRAIN, n[1], 9);
                case STONES_WORD: return setStones(n[0], n[1]);
                default: return BAD;
            }
        }

        boolean isHard(int l) {
            return load[l][HARD] == 1;
        }

        /** What a LOAD weighs behind some goings. */
        int weightBehind(int l, int goings) {
            return Math.max(0, load[l][WEIGHT] - load[l][DRAIN] * goings);
        }

        boolean allHung() {
            for (int l = 0; l < loads; l++) {
                if (load[l][CODE] == NONE) return false;
            }
            return true;
        }

        boolean tooManyHangings() {
            int hangings = 1;
            for (int l = 0; l < loads && hangings <= MOST_HANGINGS; l++) {
                hangings *= 2 * mules;
            }
            return hangings > MOST_HANGINGS;
        }

        /** UNEVEN, if of some LOADS those among ones lie on SIDE 1. */
        int unevenHalves(int some, int ones) {
            int more = 0;
            for (int l = 0; l < loads; l++) {
                if ((some >> l & 1) == 1) {
                    more += (ones >> l & 1) == 1 ? load[l][WEIGHT] : -load[l][WEIGHT];
                }
            }
            return Math.abs(more);
        }

        int howMany(int what) {
            switch (what) {
                case 0: return doors;
                case 1: return mules;
                case 2: return loads;
                case 3: return lined;
                case 4: return bytes[0];
                case 5: return bytes[1];
                default: return BAD;
            }
        }

        long mixCounts(long h) {
            for (int what = 0; what <= 5; what++) {
                h = 31 * h + howMany(what);
            }
            return h;
        }

        long mixPlaces(long h) {
            for (int p = 0; p <= doors && p < PLACES; p++) {
                h = mixRow(h, miles[p], p);
                h = 31 * h + fords[p];
                h = 31 * h + stonesAt[p];
            }
            return h;
        }
    }

    /** Reads a TEXT: its ITEMS, or its FAULT. */
    private static final class Reader {
        private static final int END = 0, WORD = 1, NUMBER = 2, STOP = 3, STRANGE = 4;

        /* The shortest ITEM has four bytes: go0; */
        private static final int MOST_ITEMS = BYTES / 4;

        final Told told;
        int items;
        final int[] word = new int[MOST_ITEMS];
        final int[][] number = new int[MOST_ITEMS][4];

        private int[] text;
        private int length, next;

        /* The TOKEN that was read last: its kind and where it begins; next is where it ends. */
        private int kind, start;

        Reader(Told told) {
            this.told = told;
            this.text = told.text[0];
        }

        /** The FAULT of a TEXT, or NONE: then its ITEMS are in word and number. */
        int read(int which) {
            text = told.text[which];
            length = told.bytes[which];
            next = 0;
            items = 0;
            for (int n = 0; n <= MOST_ITEMS; n++) {
                step();
                if (kind == END) return NONE;
                int wrong = readItem(which);
                if (wrong != NONE) return wrong;
            }
            return NONE;
        }

        private int readItem(int which) {
            int verb = verbHere(which);
            if (verb == NONE || items >= MOST_ITEMS) return start;
            String shape = shapeOf(verb);
            for (int k = 0; k < shape.length() && k < number[items].length; k++) {
                step();
                int v = shape.charAt(k) == 'h' ? hardHere() : numberHere();
                if (v == NONE) return start;
                number[items][k] = v;
            }
            step();
            if (kind != STOP) return start;
            word[items] = verb;
            items++;
            return NONE;
        }

        /** Goes on to the next TOKEN. */
        private void step() {
            while (next < length && text[next] == ' ') next++;
            start = next;
            if (next >= length) {
                kind = END;
            } else if (isLetter(text[next])) {
                kind = WORD;
                while (next < length && isLetter(text[next])) next++;
            } else if (isFigure(text[next])) {
                while (next < length && isFigure(text[next])) next++;
                kind = next - start <= 3 ? NUMBER : STRANGE;
            } else {
                kind = text[next] == ';' ? STOP : STRANGE;
                next++;
            }
        }

        private static boolean isLetter(int c) {
            return between(c, 'a', 'z');
        }

        private static boolean isFigure(int c) {
            return between(c, '0', '9');
        }

        private int verbHere(int which) {
            int first = which == 0 ? MULE_WORD : HANG_WORD;
            int behind = which == 0 ? HANG_WORD : WORDS;
            for (int v = first; v < behind; v++) {
                if (isHere(nameOf(v))) return v;
            }
            return NONE;
        }

        private int hardHere() {
            if (isHere("hard")) return 1;
            return isHere("soft") ? 0 : NONE;
        }

        private int numberHere() {
            if (kind != NUMBER) return NONE;
            int v = 0;
            for (int i = start; i < next; i++) {
                v = 10 * v + text[i] - '0';
            }
            return v;
        }

        private boolean isHere(String name) {
            if (kind != WORD || next - start != name.length()) return false;
            for (int i = 0; i < name.length(); i++) {
                if (text[start + i] != name.charAt(i)) return false;
            }
            return true;
        }

        private static String nameOf(int verb) {
            switch (verb) {
                case MULE_WORD: return "mule";
                case LOAD_WORD: return "load";
                case DOOR_WORD: return "door";
                case WAY_WORD: return "way";
                case LAME_WORD: return "lame";
                case FORD_WORD: return "ford";
                case ASK_WORD: return "ask";
                case DRAIN_WORD: return "drain";
                case STONES_WORD: return "stones";
                case HANG_WORD: return "hang";
                case TAKE_WORD: return "take";
                case OVER_WORD: return "over";
                case SWAP_WORD: return "swap";
                case STONE_WORD: return "stone";
                case DROP_WORD: return "drop";
                default: return "go";
            }
        }

        /** What stands behind a WORD: n a number, h hard or soft. */
        private static String shapeOf(int verb) {
            switch (verb) {
                case DOOR_WORD: return "";
                case FORD_WORD: case GO_WORD: return "n";
                case MULE_WORD: case WAY_WORD: case LAME_WORD: case HANG_WORD: return "nnn";
                case LOAD_WORD: return "nhnn";
                case SWAP_WORD: return "nnnn";
                default: return "nn";
            }
        }
    }

    /** Does the ACTS of TEXT 1. A SIDE is told by its code, 2 MULE and SIDE. */
    private static final class Acts {
        final Told told;
        final Reader reader;
        int right, wrong, miles, minutes, place;
        final int[] at = new int[LOADS];
        final int[] high = new int[SIDES];
        final int[] stonesOn = new int[SIDES];
        private final int[][] pile = new int[SIDES][PILE];
        private final int[] stonesLie = new int[PLACES];
        private final int[] sore = new int[MULES];

        /* By LOAD: what it weighs behind the goings so far. */
        private final int[] weighs = new int[LOADS];
        private int goings;

        Acts(Told told, Reader reader) {
            this.told = told;
            this.reader = reader;
        }

        /** Does them up to the first WRONG one; not if the TEXT has a FAULT. */
        boolean perform() {
            if (reader.read(1) != NONE) return false;
            begin();
            for (int i = 0; i < reader.items && wrong == 0; i++) {
                wrong = act(reader.word[i], reader.number[i]);
                if (wrong == 0) {
                    right++;
                    if (reader.word[i] != GO_WORD) minutes += told.numbers[LIFT];
                }
            }
            return true;
        }

        private void begin() {
            right = 0;
            wrong = 0;
            miles = 0;
            minutes = 0;
            place = HOUSE;
            goings = 0;
            for (int l = 0; l < told.loads; l++) {
                at[l] = told.load[l][FROM];
            }
            weighLoads();
            System.arraycopy(told.stonesAt, 0, stonesLie, 0, PLACES);
            Arrays.fill(high, 0);
            Arrays.fill(stonesOn, 0);
            Arrays.fill(sore, 0);
        }

        private void weighLoads() {
            for (int l = 0; l < told.loads; l++) {
                weighs[l] = told.weightBehind(l, goings);
            }
        }

        /** Does one act: by which it is WRONG, or 0. */
        private int act(int verb, int[] n) {
            switch (verb) {
                case HANG_WORD: return hangUp(n[0], n[1], n[2]);
                case TAKE_WORD: return takeOff(n[0], n[1]);
                case OVER_WORD: return shift(n[0], n[1], n[0], 1 - n[1]);
                case SWAP_WORD: return shift(n[0], n[1], n[2], n[3]);
                case STONE_WORD: return stoneOn(n[0], n[1]);
                case DROP_WORD: return stoneOff(n[0], n[1]);
                default: return goTo(n[0]);
            }
        }

        private int hangUp(int l, int m, int s) {
            if (!told.isLoad(l) || !told.isSide(m, s)) return 1;
            if (at[l] != place) return 2;
            int code = 2 * m + s;
            int why = wrongOn(l, code, true);
            if (why == 0) lieOn(l, code);
            return why;
        }

        private int takeOff(int m, int s) {
            if (!told.isSide(m, s)) return 1;
            int code = 2 * m + s;
            if (high[code] == 0) return 2;
            int l = topOf(code);
            high[code]--;
            at[l] = place;
            return 0;
        }

        private int shift(int m, int s, int k, int t) {
            if (!told.isSide(m, s) || !told.isSide(k, t) || (m == k && s == t)) return 1;
            int source = 2 * m + s, target = 2 * k + t;
            if (high[source] == 0) return 2;
            int l = topOf(source);
            int why = wrongOn(l, target, m != k);
            if (why != 0) return why;
            high[source]--;
            lieOn(l, target);
            return 0;
        }

        private int stoneOn(int m, int s) {
            if (!told.isSide(m, s)) return 1;
            if (stonesLie[place] == 0) return 2;
            int code = 2 * m + s;
            if (tooHeavy(told.numbers[STONE_WEIGHS], code, true)) return 5;
            stonesLie[place]--;
            stonesOn[code]++;
            return 0;
        }

        private int stoneOff(int m, int s) {
            if (!told.isSide(m, s)) return 1;
            int code = 2 * m + s;
            if (stonesOn[code] == 0) return 2;
            stonesOn[code]--;
            stonesLie[place]++;
            return 0;
        }

        private int goTo(int d) {
            if (!told.isPlace(d) || d == place) return 1;
            if (told.fords[d] == 1 && softLowest()) return 7;
            int far = told.miles[place][d];
            for (int mile = 0; mile < far; mile++) {
                miles++;
                if (soreByMile()) return 6;
            }
            place = d;
            goings++;
            weighLoads();
            return 0;
        }

        /** By which of 3, 4, 5 a LOAD may not come on top of a SIDE, or 0. */
        private int wrongOn(int l, int code, boolean newToMule) {
            if (high[code] >= PILE) return 3;
            if (told.isHard(l) && high[code] > 0 && !told.isHard(topOf(code))) return 4;
            return tooHeavy(weighs[l], code, newToMule) ? 5 : 0;
        }

        private boolean tooHeavy(int more, int code, boolean newToMule) {
            int m = code >> 1;
            int here = borneBy(code) + more;
            if (here > told.mule[m][BEARS + (code & 1)]) return true;
            return newToMule && here + borneBy(code ^ 1) > told.mule[m][MOST];
        }

        private void lieOn(int l, int code) {
            if (high[code] >= PILE) return;
            pile[code][high[code]] = l;
            high[code]++;
            at[l] = ON_A_MULE + code;
        }

        private boolean softLowest() {
            for (int code = 0; code < 2 * told.mules; code++) {
                if (high[code] > 0 && !told.isHard(pile[code][0])) return true;
            }
            return false;
        }

        /** One mile more for all MULES: whether one is SORE for more than LONG. */
        private boolean soreByMile() {
            boolean tooLong = false;
            for (int m = 0; m < told.mules; m++) {
                int uneven = Math.abs(borneBy(2 * m) - borneBy(2 * m + 1));
                sore[m] = uneven > told.mule[m][EVEN] ? sore[m] + 1 : 0;
                if (sore[m] > told.mule[m][LONG]) tooLong = true;
            }
            return tooLong;
        }

        int borneBy(int code) {
            int sum = stonesOn[code] * told.numbers[STONE_WEIGHS];
            for (int i = 0; i < high[code]; i++) {
                sum += weighs[pile[code][i]];
            }
            return sum;
        }

        int topOf(int code) {
            return high[code] > 0 ? pile[code][high[code] - 1] : NONE;
        }

        int done() {
            int many = 0;
            for (int l = 0; l < told.loads; l++) {
                if (at[l] == told.load[l][TO]) many++;
            }
            return many;
        }
    }

    /**
     * The LEGS of a row of DOORS, and where LOADS come ON and off: at stop 0, the HOUSE, or at
     * stop k, the DOOR at the end of LEG k - 1.
     */
    private static final class Legs {
        final Told told;
        int many, far;
        final int[] miles = new int[DOORS];
        final int[] onAt = new int[LOADS];
        final int[] offAt = new int[LOADS];

        /* By LOAD and LEG: what it weighs there, ON or not. */
        final int[][] weighs = new int[LOADS][DOORS];
        private final int[] stopOf = new int[PLACES];

        Legs(Told told) {
            this.told = told;
        }

        void follow(int[] doors, int lined) {
            many = Math.min(lined, doors.length);
            far = 0;
            Arrays.fill(stopOf, NONE);
            stopOf[HOUSE] = 0;
            int last = HOUSE;
            for (int i = 0; i < many; i++) {
                miles[i] = told.miles[last][doors[i]];
                far += miles[i];
                last = doors[i];
                stopOf[last] = i + 1;
            }
            for (int l = 0; l < told.loads; l++) {
                findStops(l);
                for (int leg = 0; leg < many; leg++) {
                    weighs[l][leg] = told.weightBehind(l, leg);
                }
            }
        }

        private void findStops(int l) {
            int on = stopOf[told.load[l][FROM]];
            int off = stopOf[told.load[l][TO]];
            if (on >= many) on = NONE;
            onAt[l] = on;
            offAt[l] = on != NONE && off > on ? off : NONE;
        }

        /** The first LEG on which a LOAD is ON. */
        int firstLeg(int l) {
            return onAt[l] == NONE ? many : onAt[l];
        }

        /** The first LEG on which it is ON no more. */
        int endLeg(int l) {
            return offAt[l] == NONE ? many : offAt[l];
        }

        private boolean isUnsure(int l) {
            return offAt[l] != NONE && between(told.load[l][ASKED], 1, 99);
        }

        int unsure() {
            int sum = 0;
            for (int l = 0; l < told.loads; l++) {
                if (isUnsure(l)) sum++;
            }
            return sum;
        }

        /** What is below every CHANCE, before it is brought to lowest terms. */
        long wholeChance() {
            long whole = 1;
            for (int k = unsure(); k > 0; k--) {
                whole *= 100;
            }
            return whole;
        }
    }

    /** What SIDES bear on LEGS under one HANGING, and the search through all HANGINGS. */
    private static final class Scales {
        final Told told;
        final Legs legs;
        int least;
        long likeliest;
        final int[] found = new int[LOADS];
        private boolean byChance;
        private long certain;
        private final int[] row = new int[LOADS];
        private final int[] hungOn = new int[MULES];
        private final int[][] bears = new int[DOORS][SIDES];
        private final int[][] loadsOn = new int[DOORS][SIDES];

        /* By LOAD and LEG: what that LOAD and those of higher numbers that are ON weigh there. */
        private final int[][] still = new int[LOADS + 1][DOORS];

        /* By 9 and the STONES on SIDE 0, or 9 less those on SIDE 1: how many were lifted so far. */
        private final int[] lifted = new int[2 * LEG_STONES + 1];
        private final int[] liftedAhead = new int[2 * LEG_STONES + 1];

        Scales(Told told, Legs legs) {
            this.told = told;
            this.legs = legs;
        }

        private void empty() {
            for (int leg = 0; leg < DOORS; leg++) {
                Arrays.fill(bears[leg], 0);
                Arrays.fill(loadsOn[leg], 0);
            }
        }

        /** Hangs the told HANGING: whether it is BORNE. */
        boolean hangTold() {
            empty();
            boolean borne = true;
            for (int l = 0; l < told.loads; l++) {
                row[l] = told.load[l][CODE];
                bring(l, legs.firstLeg(l), legs.endLeg(l), 1);
                if (!isBorneWith(l)) borne = false;
            }
            return borne;
        }

        /** A LOAD comes to its SIDE (way 1), or leaves it (-1), on the LEGS from first to end. */
        private void bring(int l, int first, int end, int way) {
            int code = row[l];
            int[] weighs = legs.weighs[l];
            for (int leg = first; leg < end; leg++) {
                bears[leg][code] += way * weighs[leg];
                loadsOn[leg][code] += way;
            }
        }

        /* No LOAD makes another lighter, so that to look where the last one came on is enough. */
        private boolean isBorneWith(int l) {
            int code = row[l];
            int[] mule = told.mule[code >> 1];
            int end = legs.endLeg(l);
            for (int leg = legs.firstLeg(l); leg < end; leg++) {
                int here = bears[leg][code];
                if (loadsOn[leg][code] > PILE || here > mule[BEARS + (code & 1)]) return false;
                if (here + bears[leg][code ^ 1] > mule[MOST]) return false;
            }
            return true;
        }

        private int more(int leg, int m) {
            return bears[leg][2 * m] - bears[leg][2 * m + 1];
        }

        int greatestUneven() {
            int greatest = 0;
            for (int leg = 0; leg < legs.many; leg++) {
                for (int m = 0; m < told.mules; m++) {
                    greatest = Math.max(greatest, Math.abs(more(leg, m)));
                }
            }
            return greatest;
        }

        int unevenMiles() {
            int sum = 0;
            for (int leg = 0; leg < legs.many; leg++) {
                boolean tooUneven = false;
                for (int m = 0; m < told.mules; m++) {
                    if (Math.abs(more(leg, m)) > told.mule[m][EVEN]) tooUneven = true;
                }
                if (tooUneven) sum += legs.miles[leg];
            }
            return sum;
        }

        /** STAYS, if its WORST is below a limit: it is in least and found then. */
        boolean seekEvenest(int limit) {
            byChance = false;
            least = limit;
            beginSeeking();
            seek(this, 0);
            return least < limit;
        }

        /** KEEP: it is in likeliest and found. */
        boolean seekLikeliest() {
            byChance = true;
            likeliest = NONE;
            certain = legs.wholeChance();
            beginSeeking();
            seek(this, 0);
            return likeliest != NONE;
        }

        private void beginSeeking() {
            empty();
            Arrays.fill(hungOn, 0);
            Arrays.fill(still[told.loads], 0);
            for (int l = told.loads - 1; l >= 0; l--) {
                int first = legs.firstLeg(l), end = legs.endLeg(l);
                for (int leg = 0; leg < legs.many; leg++) {
                    int here = leg >= first && leg < end ? legs.weighs[l][leg] : 0;
                    still[l][leg] = still[l + 1][leg] + here;
                }
            }
        }

        private static void seek(Scales s, int l) {
            if (l >= s.told.loads) {
                s.judge();
                return;
            }
            int first = s.legs.firstLeg(l), end = s.legs.endLeg(l);
            for (int code = 0; code < 2 * s.told.mules; code++) {
                if (s.repeats(code)) continue;
                s.row[l] = code;
                s.bring(l, first, end, 1);
                s.hungOn[code >> 1]++;
                if (s.isBorneWith(l) && s.mayDoBetter(l)) seek(s, l + 1);
                s.hungOn[code >> 1]--;
                s.bring(l, first, end, -1);
            }
        }

        /* What is alike and bears nothing yet may change places: the rows with the lower code come first. */
        private boolean repeats(int code) {
            int m = code >> 1;
            if (hungOn[m] > 0) return false;
            int[] mule = told.mule[m];
            if ((code & 1) == 1 && mule[BEARS] == mule[BEARS + 1]) return true;
            for (int k = 0; k < m; k++) {
                if (hungOn[k] == 0 && alike(told.mule[k], mule)) return true;
            }
            return false;
        }

        private static boolean alike(int[] one, int[] other) {
            for (int i = 0; i < MULE_ROW; i++) {
                if (one[i] != other[i]) return false;
            }
            return true;
        }

        /* Rows come in their order, so that a later one must do better, not alike. */
        private void judge() {
            if (byChance) {
                long chance = chanceOfRow();
                if (chance <= likeliest) return;
                likeliest = chance;
            } else {
                int greatest = greatestUneven();
                if (greatest >= least) return;
                least = greatest;
            }
            System.arraycopy(row, 0, found, 0, LOADS);
        }

        /* LOADS of higher numbers can make a MULE more even by no more than what they weigh. */
        private boolean mayDoBetter(int l) {
            if (byChance) return likeliest < certain;
            if (least <= 0) return false;
            int end = legs.endLeg(l);
            for (int leg = legs.firstLeg(l); leg < end; leg++) {
                int reach = least + still[l + 1][leg];
                for (int m = 0; m < told.mules; m++) {
                    if (Math.abs(more(leg, m)) >= reach) return false;
                }
            }
            return true;
        }

        /** CHANCE of the row that hangs, by wholeChance: no LOAD is on two MULES, so they multiply. */
        long chanceOfRow() {
            long chance = 1;
            for (int m = 0; m < told.mules && chance > 0; m++) {
                chance *= chanceOfMule(this, m, 0);
            }
            return chance;
        }

        /** The same for one MULE, when LOADS below l have come off, or stayed, as they hang now. */
        private static long chanceOfMule(Scales s, int m, int l) {
            if (l >= s.told.loads) return s.isEven(m) ? 1 : 0;
            if (s.row[l] >> 1 != m || s.legs.offAt[l] == NONE) return chanceOfMule(s, m, l + 1);
            int asked = s.told.load[l][ASKED];
            long chance = 0;
            if (asked > 0) {
                chance = (asked == 100 ? 1 : asked) * chanceOfMule(s, m, l + 1);
            }
            if (asked < 100) {
                s.bring(l, s.legs.endLeg(l), s.legs.many, 1);
                chance += (asked == 0 ? 1 : 100 - asked) * chanceOfMule(s, m, l + 1);
                s.bring(l, s.legs.endLeg(l), s.legs.many, -1);
            }
            return chance;
        }

        /* It calls nothing: the search for KEEP is as deep as LANGUAGE.md lets calls go. */
        private boolean isEven(int m) {
            int even = told.mule[m][EVEN];
            for (int leg = 0; leg < legs.many; leg++) {
                int more = bears[leg][2 * m] - bears[leg][2 * m + 1];
                if (more > even || -more > even) return false;
            }
            return true;
        }

        /** The fewest STONES put on and off one MULE through all LEGS; NONE. */
        int fewestStones(int m) {
            Arrays.fill(lifted, ENDLESS);
            lifted[LEG_STONES] = 0;
            for (int leg = 0; leg < legs.many; leg++) {
                System.arraycopy(lifted, 0, liftedAhead, 0, lifted.length);
                for (int i = 0; i < lifted.length; i++) {
                    int with = more(leg, m) + (i - LEG_STONES) * told.numbers[STONE_WEIGHS];
                    lifted[i] = Math.abs(with) <= told.mule[m][EVEN] ? fewestTo(i) : ENDLESS;
                }
            }
            int fewestOf = ENDLESS;
            for (int i = 0; i < lifted.length; i++) {
                fewestOf = Math.min(fewestOf, lifted[i]);
            }
            return fewestOf >= ENDLESS ? NONE : fewestOf;
        }

        private int fewestTo(int i) {
            int fewestOf = ENDLESS;
            for (int k = 0; k < liftedAhead.length; k++) {
                fewestOf = Math.min(fewestOf, liftedAhead[k] + Math.abs(i - k));
            }
            return fewestOf;
        }
    }

    /** BEST: the order of the DOORS of THE LINE. */
    private static final class Routes {
        final Told told;
        final Legs legs;
        final Scales scales;
        int least, miles;
        final int[] first = new int[DOORS];
        private final int[] order = new int[DOORS];

        Routes(Told told, Legs legs, Scales scales) {
            this.told = told;
            this.legs = legs;
            this.scales = scales;
        }

        /** Whether some order has a HANGING that is BORNE. */
        boolean seek() {
            least = ENDLESS;
            miles = 0;
            beginOrders();
            boolean more = true;
            // Five DOORS have 120 orders.
            for (int k = 0; k < 120 && more; k++) {
                legs.follow(order, told.lined);
                // Of like ones only one of fewer miles does better than what was found ahead.
                int limit = legs.far < miles ? least + 1 : least;
                if (scales.seekEvenest(limit)) {
                    least = scales.least;
                    miles = legs.far;
                    System.arraycopy(order, 0, first, 0, DOORS);
                }
                more = nextOrder();
            }
            return least < ENDLESS;
        }

        /* From the lowest DOORS on, so that the orders come by their rows. */
        private void beginOrders() {
            int many = 0;
            for (int d = 1; d <= told.doors && many < DOORS; d++) {
                if (told.isInLine(d)) {
                    order[many] = d;
                    many++;
                }
            }
        }

        private boolean nextOrder() {
            int rise = told.lined - 2;
            while (rise >= 0 && order[rise] > order[rise + 1]) rise--;
            if (rise < 0) return false;
            int next = told.lined - 1;
            while (next > rise && order[next] < order[rise]) next--;
            exchange(rise, next);
            for (int a = rise + 1, b = told.lined - 1; a < b; a++, b--) {
                exchange(a, b);
            }
            return true;
        }

        private void exchange(int a, int b) {
            int was = order[a];
            order[a] = order[b];
            order[b] = was;
        }
    }

    /**
     * LIFTINGS. A pile is one number, four bits for each LOAD from the lowest up. What happens to
     * a SIDE is a row of numbers: twice the LOAD, and 1 if it comes ON.
     */
    private static final class Layers {
        final Told told;
        final Legs legs;
        private int events;
        private final int[] event = new int[2 * LOADS];

        Layers(Told told, Legs legs) {
            this.told = told;
            this.legs = legs;
        }

        int fewestLiftings() {
            int all = 0;
            for (int code = 0; code < 2 * told.mules; code++) {
                findEvents(code);
                int here = lift(this, 0, 0, 0);
                if (here >= ENDLESS) return NONE;
                all += here;
            }
            return all;
        }

        private void findEvents(int code) {
            events = 0;
            for (int stop = 0; stop <= legs.many; stop++) {
                addEvents(code, legs.offAt, stop, 0);
                addEvents(code, legs.onAt, stop, 1);
            }
        }

        private void addEvents(int code, int[] stops, int stop, int on) {
            for (int l = 0; l < told.loads; l++) {
                if (told.load[l][CODE] == code && stops[l] == stop && events < event.length) {
                    event[events] = 2 * l + on;
                    events++;
                }
            }
        }

        /** The fewest from event e on; ENDLESS if it can not be. */
        private static int lift(Layers y, int e, int pile, int high) {
            if (e >= y.events) return 0;
            int l = y.event[e] >> 1;
            if ((y.event[e] & 1) == 0) {
                int i = heightOf(pile, high, l);
                return high - i + lift(y, e + 1, without(pile, i), high - 1);
            }
            if (high >= PILE) return ENDLESS;
            int fewestOf = ENDLESS;
            for (int i = high; i >= 0; i--) {
                if (y.mayLie(l, pile, high, i)) {
                    int rest = lift(y, e + 1, with(pile, i, l), high + 1);
                    fewestOf = Math.min(fewestOf, high - i + 1 + rest);
                }
            }
            return fewestOf;
        }

        private boolean mayLie(int l, int pile, int high, int i) {
            if (told.isHard(l)) return i == 0 || told.isHard(loadIn(pile, i - 1));
            return i >= high || !told.isHard(loadIn(pile, i));
        }

        private static int loadIn(int pile, int i) {
            return pile >> 4 * i & 15;
        }

        private static int heightOf(int pile, int high, int l) {
            for (int i = 0; i < high; i++) {
                if (loadIn(pile, i) == l) return i;
            }
            return high;
        }

        private static int with(int pile, int i, int l) {
            int lower = pile & (1 << 4 * i) - 1;
            return lower | l << 4 * i | (pile >> 4 * i) << 4 * i + 4;
        }

        private static int without(int pile, int i) {
            int lower = pile & (1 << 4 * i) - 1;
            return lower | (pile >> 4 * i + 4) << 4 * i;
        }
    }

    /**
     * The orders in which one man ALONE hangs the LOADS of a MULE. Those of them that hang are
     * bits: of the first, the second, .. of them.
     */
    private static final class Alone {
        private static final int MOST_HUNG = 2 * PILE;

        final Told told;
        private int many, mostUneven;
        private final int[] loads = new int[MOST_HUNG];
        private final int[] high = new int[2];

        /* By those that hang: in how many orders the others can follow. */
        private final int[] orders = new int[1 << MOST_HUNG];

        Alone(Told told) {
            this.told = told;
        }

        /** How many orders there are. */
        int find(int m, int t) {
            mostUneven = t;
            if (!gather(m)) return 0;
            int all = (1 << many) - 1;
            orders[all] = 1;
            for (int hung = all - 1; hung >= 0; hung--) {
                orders[hung] = 0;
                for (int i = 0; i < many; i++) {
                    if (mayFollow(hung, i)) orders[hung] += orders[hung | 1 << i];
                }
            }
            return orders[0];
        }

        /** The LOAD in a place of the first order, if there is one. */
        int inFirst(int place) {
            if (place >= many) return NO_SUCH;
            int hung = 0, last = 0;
            for (int k = 0; k <= place; k++) {
                last = nextInFirst(hung);
                hung |= 1 << last;
            }
            return loads[last];
        }

        /** Finds the LOADS; not if a SIDE would have more than it may. */
        private boolean gather(int m) {
            many = 0;
            Arrays.fill(high, 0);
            for (int l = 0; l < told.loads; l++) {
                int code = told.load[l][CODE];
                if (told.load[l][FROM] != HOUSE || code >> 1 != m) continue;
                if (high[code & 1] >= PILE) return false;
                high[code & 1]++;
                loads[many] = l;
                many++;
            }
            return true;
        }

        private int nextInFirst(int hung) {
            for (int i = 0; i < many; i++) {
                if (mayFollow(hung, i) && orders[hung | 1 << i] > 0) return i;
            }
            return 0;
        }

        private boolean mayFollow(int hung, int i) {
            if ((hung >> i & 1) == 1) return false;
            int[] load = told.load[loads[i]];
            int uneven = load[WEIGHT];
            for (int k = 0; k < many; k++) {
                if ((hung >> k & 1) == 0) continue;
                int[] other = told.load[loads[k]];
                if (other[CODE] != load[CODE]) {
                    uneven -= other[WEIGHT];
                    continue;
                }
                if (load[HARD] > other[HARD]) return false;
                uneven += other[WEIGHT];
            }
            return Math.abs(uneven) <= mostUneven;
        }
    }
}
