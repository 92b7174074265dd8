/**
 * Shelves of rain: pans of rain by years, what is done with them and what can be asked of them.
 * ../shared/DOC.md says what each call must do; README.md says how to use it.
 */
public final class RainShelves {
    public static final int BAD = -1, STATE = -2, FULL = -3, NONE = -9;
    public static final int NO = -1000000;

    private static final int MOST_PANS = 7;
    private static final int MOST_SETS = 128;
    private static final int MOST_LETTERS = 200;
    private static final int MOST_ITEMS = 9;
    private static final int MOST_LEVELS = 5;
    private static final int MOST_UNDONE = 10;
    private static final int MOST_IMAGES = 2;

    private static final int LAST_SPRING = 999;
    private static final int LAST_LASTING = 400;
    private static final int MOST_STOLEN = 20;

    /** Where rain goes that comes into no other pan. */
    private static final int GONE = -1;

    private final House house;
    private final Text text;
    private final Rain rain;
    private final History history;
    private final Rain[] images;
    private final boolean[] kept;
    private final Levels told;
    private final Sets sets;
    private final Frost frost;
    private long traced;

    public RainShelves() {
        house = new House();
        text = new Text();
        rain = new Rain(house);
        history = new History(house);
        images = new Rain[MOST_IMAGES];
        for (int i = 0; i < MOST_IMAGES; i++) {
            images[i] = new Rain(house);
        }
        kept = new boolean[MOST_IMAGES];
        told = new Levels();
        sets = new Sets();
        frost = new Frost();
        traced = 0;
    }

    // ---- the house

    public int type(int letter) {
        if (!isWithin(letter, 0, 255)) {
            return BAD;
        }
        return text.append(letter) ? text.length : FULL;
    }

    public int clear() {
        int had = text.length;
        text.length = 0;
        return had;
    }

    public int house() {
        int items = text.read();
        if (items < 0) {
            return items;
        }
        house.become(text.draft);
        text.length = 0;
        rain.fill();
        history.known = 0;
        told.size = 0;
        for (int i = 0; i < MOST_IMAGES; i++) {
            kept[i] = false;
        }
        return items;
    }

    public int pan(int p, int what) {
        if (!house.has(p)) {
            return BAD;
        }
        switch (what) {
            case 0: return house.years[p];
            case 1: return house.shrinks[p];
            case 2: return house.sorts[p];
            case 3: return rain.inPan(p);
            case 4: return rain.canBeRead(p) ? 1 : 0;
            case 5: return rain.tasteOf(p);
            case 6: return rain.whereIs(p);
            default: return BAD;
        }
    }

    public int holds(int p, int of) {
        if (!house.has(p) || !house.has(of)) {
            return BAD;
        }
        return rain.amount(p, of);
    }

    public int now(int what) {
        switch (what) {
            case 0: return rain.springs;
            case 1: return rain.lost;
            case 2: return rain.inAll();
            case 3: return rain.readable();
            case 4: return rain.wettest();
            case 5: return history.known;
            default: return BAD;
        }
    }

    // ---- what is done

    public int uses(int p, int n) {
        if (!house.has(p) || !isWithin(n, 1, 99)) {
            return BAD;
        }
        if (rain.inPan(p) == 0) {
            return STATE;
        }
        history.remember(rain);
        return rain.take(p, n, GONE);
    }

    public int pours(int a, int b, int n) {
        if (!house.has(a) || !house.has(b) || a == b || !isWithin(n, 1, 99)) {
            return BAD;
        }
        if (rain.inPan(a) == 0) {
            return STATE;
        }
        history.remember(rain);
        return rain.take(a, n, b);
    }

    public int spring() {
        if (rain.springs >= LAST_SPRING) {
            return STATE;
        }
        history.remember(rain);
        return rain.passSpring();
    }

    public int splits(int p) {
        if (!house.has(p)) {
            return BAD;
        }
        int held = rain.inPan(p);
        if (held == 0) {
            return STATE;
        }
        history.remember(rain);
        return rain.take(p, held, GONE);
    }

    public int undo() {
        if (history.known == 0) {
            return STATE;
        }
        history.restore(rain);
        return history.known;
    }

    // ---- how long

    public int lasts(int p) {
        if (!house.has(p)) {
            return BAD;
        }
        for (int n = 0; n <= LAST_LASTING; n++) {
            if (!rain.canBeReadIn(n, p)) {
                return n;
            }
        }
        return NONE;
    }

    public int inSprings(int n, int p) {
        if (!isWithin(n, 0, 200)) {
            return BAD;
        }
        if (p == -1) {
            return countReadableIn(n);
        }
        return house.has(p) ? afterSprings(rain.inPan(p), n, p) : BAD;
    }

    private int countReadableIn(int n) {
        int readable = 0;
        for (int p = 0; p < house.pans; p++) {
            if (rain.canBeReadIn(n, p)) {
                readable++;
            }
        }
        return readable;
    }

    private int afterSprings(int held, int n, int p) {
        return Math.max(0, held - n * house.shrinks[p]);
    }

    // ---- fires, mixtures

    public int fire(int n, int what) {
        if (!isWithin(n, 1, 400) || !isWithin(what, 0, 1)) {
            return BAD;
        }
        sets.weigh(house, rain);
        int readable = rain.readable();
        int burnt = sets.bestFire(n, readable);
        if (burnt == NONE || what == 0) {
            return burnt;
        }
        return Sets.countLeft(readable, burnt);
    }

    public int spoil(int p) {
        if (!house.has(p)) {
            return BAD;
        }
        return rain.canBeRead(p) ? rain.inPan(p) - house.least + 1 : 0;
    }

    public int mix(int t, int s, int what) {
        if (!isWithin(t, 1, 60) || !isWithin(s, 0, 5940) || !isWithin(what, 0, 1)) {
            return BAD;
        }
        int ways = 0;
        int first = NONE;
        for (int a = 0; a < house.pans; a++) {
            for (int b = a + 1; b < house.pans; b++) {
                int n = house.spoonsOfLesser(a, b, t, s);
                if (n > 0) {
                    ways++;
                    first = first == NONE ? 1000 * a + 100 * b + n : first;
                }
            }
        }
        return what == 0 ? ways : first;
    }

    // ---- thefts

    public int levels(int k, int p, int v) {
        if (!isWithin(k, 0, 60) || !house.has(p) || !isWithin(v, 0, 420)) {
            return BAD;
        }
        return told.append(k, p, v) ? told.size : FULL;
    }

    public int forget() {
        int had = told.size;
        told.size = 0;
        return had;
    }

    public int theft(int what) {
        if (!isWithin(what, 0, 2)) {
            return BAD;
        }
        int ways = 0;
        int first = NONE;
        int bits = 0;
        for (int p = 0; p < house.pans; p++) {
            int most = Math.min(MOST_STOLEN, rain.inPan(p));
            for (int n = 1; n <= most; n++) {
                if (areLevelsSo(p, n)) {
                    ways++;
                    first = first == NONE ? 100 * p + n : first;
                    bits |= 1 << p;
                }
            }
        }
        return what == 0 ? ways : what == 1 ? first : bits;
    }

    private boolean areLevelsSo(int thiefsPan, int stolen) {
        for (int i = 0; i < told.size; i++) {
            int p = told.pans[i];
            int held = rain.inPan(p) - (p == thiefsPan ? stolen : 0);
            if (afterSprings(held, told.springs[i], p) != told.spoons[i]) {
                return false;
            }
        }
        return true;
    }

    // ---- shelves, odds

    public int shelves() {
        sets.weigh(house, rain);
        return sets.fewestShelves();
    }

    public int beside(int p) {
        if (!house.has(p)) {
            return BAD;
        }
        sets.weigh(house, rain);
        return sets.mostBeside(p);
    }

    public int odds(int x, int k, int what) {
        if (!isWithin(x, 0, 10) || !isWithin(k, 0, 7) || !isWithin(what, 0, 1)) {
            return BAD;
        }
        frost.reckon(x, k, Integer.bitCount(rain.readable()));
        return what == 0 ? frost.upper : frost.lower;
    }

    // ---- kinds, images

    public int rate(int kind, int p) {
        if (!house.has(p)) {
            return NO;
        }
        switch (kind) {
            case 0: return rateOfPan(p);
            case 1: return rateOfSaucer(p);
            case 2: return rateOfBottle(p);
            case 3: return rateOfFont(p);
            case 4: return rateOfPhial(p);
            case 5: return rateOfUrn(p);
            default: return NO;
        }
    }

    private int rateOfPan(int p) {
        traced += 1;
        return rain.inPan(p);
    }

    private int rateOfSaucer(int p) {
        traced += 10;
        return rateOfPan(p) + house.shrinks[p];
    }

    private int rateOfBottle(int p) {
        traced += 100;
        return rateOfPan(p) - house.years[p];
    }

    private int rateOfFont(int p) {
        traced += 1000;
        // Doubled, not asked twice: each body counts once in the trace.
        return 2 * rateOfSaucer(p);
    }

    private int rateOfPhial(int p) {
        traced += 10000;
        return rateOfBottle(p) + p;
    }

    private int rateOfUrn(int p) {
        traced += 100000;
        return rateOfPan(p) + rain.springs;
    }

    public int keep(int image) {
        if (!isWithin(image, 0, MOST_IMAGES - 1)) {
            return BAD;
        }
        images[image].become(rain);
        kept[image] = true;
        return rain.springs;
    }

    public int back(int image) {
        if (!isWithin(image, 0, MOST_IMAGES - 1)) {
            return BAD;
        }
        if (!kept[image]) {
            return STATE;
        }
        rain.become(images[image]);
        history.known = 0;
        return rain.springs;
    }

    public int count(int what) {
        switch (what) {
            case 0: return house.pans;
            case 1: return house.least;
            case 2: return house.shelf;
            case 3: return told.size;
            case 4: return text.length;
            default: return BAD;
        }
    }

    public long trace() {
        return traced;
    }

    private static boolean isWithin(int n, int low, int high) {
        return n >= low && n <= high;
    }

    /** What a text tells: the pans as they were at first, LEAST and SHELF. */
    private static final class House {
        private static final int FIRST_LEAST = 5;
        private static final int FIRST_SHELF = 60;
        private static final int HAIL = 2;

        private int pans;
        private int least;
        private int shelf;
        private final int[] years = new int[MOST_PANS];
        private final int[] spoons = new int[MOST_PANS];
        private final int[] shrinks = new int[MOST_PANS];
        private final int[] sorts = new int[MOST_PANS];
        /** The pans, that of the oldest rain first: the order in which rain is taken. */
        private final int[] byAge = new int[MOST_PANS];

        private House() {
            empty();
        }

        private void empty() {
            pans = 0;
            least = FIRST_LEAST;
            shelf = FIRST_SHELF;
        }

        private boolean has(int p) {
            return p >= 0 && p < pans;
        }

        /** Adds a pan, whose four numbers the reader has looked at. */
        private boolean append(int year, int amount, int shrink, int sort) {
            if (pans >= MOST_PANS) {
                return false;
            }
            years[pans] = year;
            spoons[pans] = amount;
            shrinks[pans] = shrink;
            sorts[pans] = sort;
            int place = pans;
            // Not past a pan of the same year: of like years the lowest pan comes first.
            while (place > 0 && years[byAge[place - 1]] > year) {
                byAge[place] = byAge[place - 1];
                place--;
            }
            byAge[place] = pans;
            pans++;
            return true;
        }

        private void become(House other) {
            pans = other.pans;
            least = other.least;
            shelf = other.shelf;
            for (int p = 0; p < MOST_PANS; p++) {
                years[p] = other.years[p];
                spoons[p] = other.spoons[p];
                shrinks[p] = other.shrinks[p];
                sorts[p] = other.sorts[p];
                byAge[p] = other.byAge[p];
            }
        }

        private int hailPans() {
            int bits = 0;
            for (int p = 0; p < pans; p++) {
                if (sorts[p] == HAIL) {
                    bits |= 1 << p;
                }
            }
            return bits;
        }

        /** Of t spoons with the sum s, how many are of pan a, the rest of pan b; 0 if it can't be. */
        private int spoonsOfLesser(int a, int b, int t, int s) {
            if (years[a] == years[b]) {
                return 0;
            }
            // The years differ, so each further spoon of a changes the sum: one way at most.
            for (int n = 1; n < t; n++) {
                if (n * years[a] + (t - n) * years[b] == s) {
                    return n;
                }
            }
            return 0;
        }
    }

    /** The letters told so far, and how they are read into a house. */
    private static final class Text {
        private static final int BLANK = 32;
        private static final int NUMBER = 256;
        private static final int END = 257;
        /** Stands for every number that no place takes, so that it is a fault wherever it is. */
        private static final int NO_NUMBER = 100;

        private final int[] letters = new int[MOST_LETTERS];
        private int length;
        /** What was read last; it counts only if there was no fault. */
        private final House draft = new House();
        private boolean leastTold;
        private boolean shelfTold;
        private int place;
        private int token;
        /** The token's first letter; the text's length at its end: where a fault is, if there is one. */
        private int start;
        private int number;

        private boolean append(int letter) {
            if (length >= MOST_LETTERS) {
                return false;
            }
            letters[length] = letter;
            length++;
            return true;
        }

        /** How many items there are, or -10 less the place of the fault. */
        private int read() {
            draft.empty();
            leastTold = false;
            shelfTold = false;
            place = 0;
            // One round more than there can be items: the last one meets the end or a fault.
            for (int items = 0; items <= MOST_ITEMS; items++) {
                step();
                if (token == END) {
                    return items;
                }
                if (!readItem()) {
                    break;
                }
            }
            return -10 - start;
        }

        private boolean readItem() {
            boolean read = false;
            if (token == 'p') {
                read = readPan();
            } else if (token == 'l') {
                read = readLeast();
            } else if (token == 's') {
                read = readShelf();
            }
            if (!read) {
                return false;
            }
            step();
            return token == ';';
        }

        private boolean readPan() {
            if (draft.pans >= MOST_PANS || !readNumber(0, 99)) {
                return false;
            }
            int year = number;
            if (!readNumber(0, 60)) {
                return false;
            }
            int amount = number;
            if (!readNumber(0, 9)) {
                return false;
            }
            int shrink = number;
            return readNumber(0, 2) && draft.append(year, amount, shrink, number);
        }

        private boolean readLeast() {
            if (leastTold || !readNumber(1, 60)) {
                return false;
            }
            leastTold = true;
            draft.least = number;
            return true;
        }

        private boolean readShelf() {
            if (shelfTold || !readNumber(10, 99)) {
                return false;
            }
            shelfTold = true;
            draft.shelf = number;
            return true;
        }

        private boolean readNumber(int low, int high) {
            step();
            return token == NUMBER && number >= low && number <= high;
        }

        private void step() {
            while (place < length && letters[place] == BLANK) {
                place++;
            }
            start = place;
            if (place >= length) {
                token = END;
            } else if (isDigit(letters[place])) {
                token = NUMBER;
                number = digits();
            } else {
                token = letters[place];
                place++;
            }
        }

        private int digits() {
            int value = 0;
            boolean zeroAhead = false;
            while (place < length && isDigit(letters[place])) {
                zeroAhead = zeroAhead || value == 0 && place > start;
                value = Math.min(NO_NUMBER, value * 10 + letters[place] - '0');
                place++;
            }
            return zeroAhead ? NO_NUMBER : value;
        }

        private static boolean isDigit(int letter) {
            return letter >= '0' && letter <= '9';
        }
    }

    /** What the pans hold at one time, with the spring and what is lost by then. */
    private static final class Rain {
        private final House house;
        private final int[] spoons = new int[MOST_PANS * MOST_PANS];
        private int springs;
        private int lost;

        private Rain(House house) {
            this.house = house;
        }

        /** As the house is told: each pan has its own rain alone. */
        private void fill() {
            springs = 0;
            lost = 0;
            for (int i = 0; i < MOST_PANS * MOST_PANS; i++) {
                spoons[i] = 0;
            }
            for (int p = 0; p < house.pans; p++) {
                spoons[at(p, p)] = house.spoons[p];
            }
        }

        private void become(Rain other) {
            springs = other.springs;
            lost = other.lost;
            for (int i = 0; i < MOST_PANS * MOST_PANS; i++) {
                spoons[i] = other.spoons[i];
            }
        }

        private static int at(int p, int of) {
            return p * MOST_PANS + of;
        }

        private int amount(int p, int of) {
            return spoons[at(p, of)];
        }

        private int inPan(int p) {
            int sum = 0;
            for (int of = 0; of < house.pans; of++) {
                sum += amount(p, of);
            }
            return sum;
        }

        private int inAll() {
            int sum = 0;
            for (int p = 0; p < house.pans; p++) {
                sum += inPan(p);
            }
            return sum;
        }

        private int tasteOf(int p) {
            int sum = 0;
            for (int of = 0; of < house.pans; of++) {
                sum += amount(p, of) * house.years[of];
            }
            return sum;
        }

        private int whereIs(int of) {
            int bits = 0;
            for (int p = 0; p < house.pans; p++) {
                if (amount(p, of) > 0) {
                    bits |= 1 << p;
                }
            }
            return bits;
        }

        private int wettest() {
            int best = NONE;
            int most = 0;
            // By age, so that of several years the least comes first and stays.
            for (int i = 0; i < house.pans; i++) {
                int year = house.years[house.byAge[i]];
                int sum = ofYear(year);
                if (sum > most) {
                    most = sum;
                    best = year;
                }
            }
            return best;
        }

        private int ofYear(int year) {
            int sum = 0;
            for (int of = 0; of < house.pans; of++) {
                for (int p = 0; house.years[of] == year && p < house.pans; p++) {
                    sum += amount(p, of);
                }
            }
            return sum;
        }

        /** Takes so many spoons at most, the oldest first, to another pan or GONE: how many it were. */
        private int take(int from, int most, int to) {
            int left = most;
            for (int i = 0; i < house.pans; i++) {
                int of = house.byAge[i];
                int part = Math.min(left, amount(from, of));
                spoons[at(from, of)] -= part;
                if (to == GONE) {
                    lost += part;
                } else {
                    spoons[at(to, of)] += part;
                }
                left -= part;
            }
            return most - left;
        }

        private int passSpring() {
            int gone = 0;
            for (int p = 0; p < house.pans; p++) {
                gone += take(p, house.shrinks[p], GONE);
            }
            springs++;
            return gone;
        }

        private boolean canBeRead(int p) {
            return canBeReadIn(0, p);
        }

        /** A spring takes from each pan by itself, so n of them are one that takes n times as much. */
        private boolean canBeReadIn(int n, int p) {
            int left = n * house.shrinks[p];
            int own = 0;
            int others = 0;
            for (int i = 0; i < house.pans; i++) {
                int of = house.byAge[i];
                int part = Math.min(left, amount(p, of));
                left -= part;
                int stays = amount(p, of) - part;
                if (of == p) {
                    own = stays;
                } else {
                    others += stays;
                }
            }
            return own >= house.least && others == 0;
        }

        private int readable() {
            int bits = 0;
            for (int p = 0; p < house.pans; p++) {
                if (canBeRead(p)) {
                    bits |= 1 << p;
                }
            }
            return bits;
        }
    }

    /** How things were ahead of the latest ten deeds. */
    private static final class History {
        private final Rain[] rows = new Rain[MOST_UNDONE];
        private int known;
        /** The row for the next deed; the rows are a ring, so that the oldest one is lost. */
        private int next;

        private History(House house) {
            for (int i = 0; i < MOST_UNDONE; i++) {
                rows[i] = new Rain(house);
            }
        }

        private void remember(Rain rain) {
            rows[next].become(rain);
            next = next + 1 < MOST_UNDONE ? next + 1 : 0;
            known = Math.min(MOST_UNDONE, known + 1);
        }

        private void restore(Rain rain) {
            next = next > 0 ? next - 1 : MOST_UNDONE - 1;
            rain.become(rows[next]);
            known--;
        }
    }

    /** What pans are said to hold in some springs, row by row. */
    private static final class Levels {
        private final int[] springs = new int[MOST_LEVELS];
        private final int[] pans = new int[MOST_LEVELS];
        private final int[] spoons = new int[MOST_LEVELS];
        private int size;

        private boolean append(int k, int p, int v) {
            if (size >= MOST_LEVELS) {
                return false;
            }
            springs[size] = k;
            pans[size] = p;
            spoons[size] = v;
            size++;
            return true;
        }
    }

    /** All sets of pans, as bits, with what each holds: for fires and for shelves. */
    private static final class Sets {
        private final int[] weights = new int[MOST_SETS];
        private final int[] fewest = new int[MOST_SETS];
        private int size;
        private int shelf;
        private int hail;
        /** The pans that hold any: no other one stands on a shelf. */
        private int filled;

        private void weigh(House house, Rain rain) {
            size = 1;
            shelf = house.shelf;
            hail = house.hailPans();
            filled = 0;
            weights[0] = 0;
            for (int p = 0; p < house.pans; p++) {
                int held = rain.inPan(p);
                for (int set = 0; set < size; set++) {
                    weights[size + set] = weights[set] + held;
                }
                if (held > 0) {
                    filled |= size;
                }
                size *= 2;
            }
        }

        private static int countLeft(int readable, int split) {
            return Integer.bitCount(readable & ~split);
        }

        private int bestFire(int n, int readable) {
            int best = NONE;
            // Upwards, so that of sets that are as good the least bits stay.
            for (int set = 1; set < size; set++) {
                if (weights[set] >= n && (best == NONE || isBetterFire(set, best, readable))) {
                    best = set;
                }
            }
            return best;
        }

        private boolean isBetterFire(int set, int best, int readable) {
            int more = countLeft(readable, set) - countLeft(readable, best);
            return more > 0 || more == 0 && weights[set] < weights[best];
        }

        private boolean fitsOneShelf(int set) {
            int hailInSet = set & hail;
            return weights[set] <= shelf && (hailInSet == 0 || hailInSet == set);
        }

        private boolean isFilled(int set) {
            return (set & ~filled) == 0;
        }

        private int fewestShelves() {
            for (int pan = 1; pan < size; pan *= 2) {
                if (weights[pan] > shelf) {
                    return NONE;
                }
            }
            fewest[0] = 0;
            for (int set = 1; set < size; set++) {
                if (isFilled(set)) {
                    fewest[set] = fewestFor(set);
                }
            }
            return fewest[filled];
        }

        /** One shelf's pans are taken off in every way; the sets that are left are smaller numbers. */
        private int fewestFor(int set) {
            int best = MOST_PANS;
            for (int part = set; part > 0; part = (part - 1) & set) {
                if (fitsOneShelf(part)) {
                    best = Math.min(best, fewest[set ^ part] + 1);
                }
            }
            return best;
        }

        private int mostBeside(int p) {
            int most = 0;
            for (int set = 1; set < size; set++) {
                boolean hasPan = (set >> p & 1) == 1;
                if (hasPan && isFilled(set) && fitsOneShelf(set)) {
                    most = Math.max(most, Integer.bitCount(set));
                }
            }
            return most == 0 ? NONE : most - 1;
        }
    }

    /** The odds that enough pans are left by frost, as a fraction. */
    private static final class Frost {
        /** By how many of the pans are left: in how many of 10, 100, .. cases it is so. */
        private final int[] cases = new int[MOST_PANS + 1];
        private int upper;
        private int lower;

        private void reckon(int x, int k, int pans) {
            lower = 1;
            for (int left = 0; left <= MOST_PANS; left++) {
                cases[left] = left == 0 ? 1 : 0;
            }
            for (int i = 0; i < pans; i++) {
                lower *= 10;
                addPan(x);
            }
            upper = 0;
            for (int left = Math.max(0, k); left <= MOST_PANS; left++) {
                upper += cases[left];
            }
            reduce(pans);
        }

        private void addPan(int x) {
            for (int left = MOST_PANS; left > 0; left--) {
                cases[left] = cases[left] * x + cases[left - 1] * (10 - x);
            }
            cases[0] *= x;
        }

        /** The lower number is 10 * 10 * ..: it can be divided by nothing but 2 and 5, each as often. */
        private void reduce(int tens) {
            for (int i = 0; i < tens; i++) {
                if (upper % 2 == 0 && lower % 2 == 0) {
                    upper /= 2;
                    lower /= 2;
                }
                if (upper % 5 == 0 && lower % 5 == 0) {
                    upper /= 5;
                    lower /= 5;
                }
            }
        }
    }
}
