/**
 * A country in which doors are sold separately, and what lies behind goes along. The numbered promises that this
 * class keeps stand in the project's document; README.md tells how to use it.
 *
 * Everything that a call needs is made with the object and used again, so no call makes an object or an array.
 */
public final class DoorSold {
    public static final int BAD = -1, FULL = -2, FINDING = -3, STATE = -4, SPENT = -6, NONE = -9;

    private static final int NOTHING = 1, BEYOND = 2, UNLIKE = 3, NOUGHT = 4, SIZE = 5;
    /** What a check answers when it has nothing against a call: no refusal is 0. */
    private static final int FINE = 0;

    private static final int ROWS = 6, MOST_INTS = 40;
    private static final int TEXTS = 4, MOST_BYTES = 60, BLANK = 32;
    private static final int MOST_PLACES = 7, MOST_DOORS = 6, MOST_DEEDS = 40, KEPT = 3;
    private static final int DUTCH = 1, BACK = 2, BRICKED = 3, STUDY = 4, CART = 5, KINDS = 6;

    /** STEPS are 0 .. 5 (doors) and these two. */
    private static final int ROAD = 6, WAITING = 7, STEPS = 8;
    private static final int ROAD_HOURS = 3;
    /** A DEED is a STEP, or one of these and the number of a door. */
    private static final int BUYING = 8, SELLING = 16, SETTING = 24;

    private static final int MOST_HOURS = 30, LATEST_CLUE = 99, CLUE = 3;
    private static final int MOST_TURNS = 6, CHANCE_PARTS = 12;
    private static final int MOST_LOTS = 20;
    private static final long LOT_FACTOR = 48271L, LOT_MODULUS = 2147483647L;
    private static final int COUNTS = 11, FACTS = 8, FINDINGS = 5;

    private final Row[] rows = new Row[ROWS];
    private final Row[] texts = new Row[TEXTS];
    private final Kind[] allKinds = {new Kind(), new Dutch(), new Back(), new Bricked(), new Study(), new Cart()};
    private final Country now = new Country(allKinds);
    private final Country draft = new Country(allKinds);
    private final Country[] kept = new Country[KEPT];
    private final Reader reader = new Reader();
    private final Ways ways = new Ways();
    private final Chase hunt = new Chase();
    private final int[] seenAfter = new int[MOST_PLACES];
    private final int[] found = new int[FINDINGS + 1];
    private int lastFound = 0;
    private int told = 0;
    private long over = 0;
    private long under = 1;

    public DoorSold() {
        for (int r = 0; r < ROWS; r++) rows[r] = new Row(MOST_INTS);
        for (int t = 0; t < TEXTS; t++) texts[t] = new Row(MOST_BYTES);
        for (int k = 0; k < KEPT; k++) kept[k] = new Country(allKinds);
    }

    // ---- 1 rows, texts, countries

    public int row(int r, int n) {
        if (noRow(r) || n > MOST_INTS) return BAD;
        if (n < 0) return find(SIZE);
        rows[r].make(n, 0);
        return n;
    }

    public int lay(int r, int i, int v) {
        int refusal = cellRefusal(r, i);
        if (refusal != FINE) return refusal;
        told = rows[r].cells[i];
        rows[r].cells[i] = v;
        return 1;
    }

    public int at(int r, int i) {
        int refusal = cellRefusal(r, i);
        if (refusal != FINE) return refusal;
        told = rows[r].cells[i];
        return 1;
    }

    public int tear(int r) {
        if (noRow(r)) return BAD;
        if (rows[r].missing()) return find(NOTHING);
        rows[r].size = Row.MISSING;
        return 1;
    }

    public int copy(int r, int i, int to, int j, int n) {
        if (noRow(r) || noRow(to)) return BAD;
        if (n < 0) return find(SIZE);
        if (rows[r].missing() || rows[to].missing()) return find(NOTHING);
        if (!rows[r].holds(i, n) || !rows[to].holds(j, n)) return find(BEYOND);
        System.arraycopy(rows[r].cells, i, rows[to].cells, j, n);
        return 1;
    }

    public int mean(int r) {
        if (noRow(r)) return BAD;
        if (rows[r].missing()) return find(NOTHING);
        int size = rows[r].size;
        if (size == 0) return find(NOUGHT);
        told = (int) (rows[r].sum() / size);
        return 1;
    }

    public int text(int t, int n) {
        if (noText(t) || n > MOST_BYTES) return BAD;
        if (n < 0) return find(SIZE);
        texts[t].make(n, BLANK);
        return n;
    }

    public int put(int t, int i, int v) {
        if (noText(t)) return BAD;
        if (texts[t].missing()) return find(NOTHING);
        if (!texts[t].holds(i, 1)) return find(BEYOND);
        int before = texts[t].cells[i];
        texts[t].cells[i] = (byte) v;
        return 1000 + before;
    }

    public int fault(int t) {
        if (noText(t)) return BAD;
        if (texts[t].missing()) return find(NOTHING);
        return reader.faultOf(texts[t], draft);
    }

    public int country(int t) {
        if (noText(t)) return BAD;
        if (texts[t].missing()) return find(NOTHING);
        if (reader.faultOf(texts[t], draft) != NONE) return STATE;
        draft.begin();
        now.become(draft);
        for (int k = 0; k < KEPT; k++) kept[k].clear();
        return now.doors;
    }

    public int door(int i, int what) {
        if (noDoor(i) || what < 0 || what >= FACTS) return BAD;
        told = factOf(i, what);
        return 1;
    }

    public int mark(int i, int kind) {
        if (noDoor(i) || kind < DUTCH || kind >= KINDS) return BAD;
        if (!now.isOf(i, kind)) return find(UNLIKE);
        switch (kind) {
            case DUTCH: return otherOpenDoors(i);
            case BACK: return Math.max(0, now.price[i] - now.costOf(i));
            case BRICKED: return Math.floorMod(-now.hour, Bricked.EVERY);
            case STUDY: return ROAD_HOURS * now.ring(now.exitOf(i) - now.entryOf(i, now.hour));
            default: return now.ring(now.place - now.entryOf(i, now.hour));
        }
    }

    // ---- 2 deeds

    public int road() {
        if (now.doors == 0) return STATE;
        if (!now.hasRoomFor(1)) return FULL;
        now.perform(ROAD);
        return now.place;
    }

    public int stay() {
        if (now.doors == 0) return STATE;
        if (!now.hasRoomFor(1)) return FULL;
        now.perform(WAITING);
        return now.hour;
    }

    public int go(int i) {
        if (noDoor(i)) return BAD;
        if (!now.canPass(i)) return STATE;
        if (!now.hasRoomFor(1)) return FULL;
        now.perform(i);
        return now.place;
    }

    public int buy(int i) {
        if (noDoor(i)) return BAD;
        if (now.owns(i)) return STATE;
        if (now.costOf(i) > now.purse) return SPENT;
        if (!now.hasRoomFor(1)) return FULL;
        now.perform(BUYING + i);
        return now.purse;
    }

    public int sell(int i) {
        if (noDoor(i)) return BAD;
        if (!now.owns(i)) return STATE;
        if (!now.hasRoomFor(1)) return FULL;
        now.perform(SELLING + i);
        return now.purse;
    }

    public int set(int i) {
        if (noDoor(i)) return BAD;
        if (!now.owns(i) || now.entryOf(i, now.hour) == now.place) return STATE;
        if (!now.hasRoomFor(1)) return FULL;
        now.perform(SETTING + i);
        return now.stands[i];
    }

    public int undo(int n) {
        if (n < 0 || n > now.deeds) return BAD;
        int undone = now.deeds - n;
        now.beginAgain(n);
        return undone;
    }

    public int keep(int k) {
        if (noKeeping(k)) return BAD;
        if (now.doors == 0) return STATE;
        kept[k].become(now);
        return now.deeds;
    }

    public int on(int k) {
        if (noKeeping(k)) return BAD;
        if (kept[k].doors == 0) return find(NOTHING);
        now.become(kept[k]);
        return now.deeds;
    }

    // ---- 3 ways

    public int where(int n) {
        if (noHours(n)) return BAD;
        if (now.doors == 0) return STATE;
        return ways.placesAfter(now, now.bought, n);
    }

    public int soonest(int place) {
        if (noPlace(place)) return BAD;
        int hours = ways.hoursTo(now, now.bought, place);
        told = Integer.bitCount(ways.reach[hours]);
        return hours;
    }

    public int way(int place, int r) {
        if (noPlace(place) || noRow(r)) return BAD;
        int hours = ways.hoursTo(now, now.bought, place);
        ways.traceBack(now, place, hours);
        rows[r].make(0, 0);
        ways.firstSteps(now, hours, rows[r]);
        return rows[r].size;
    }

    // ---- 4 what to buy, what to shut

    public int cheapest(int place, int n) {
        if (noPlace(place) || noHours(n)) return BAD;
        int least = NONE;
        int which = 0;
        for (int set = 0; set <= now.allDoors(); set++) {
            if ((set & now.bought) != 0) continue;
            int cost = now.costOfSet(set);
            if (least != NONE && cost >= least) continue;
            if (ways.hoursTo(now, now.bought | set, place) > n) continue;
            least = cost;
            which = set;
        }
        if (least != NONE) told = which;
        return least;
    }

    public int shut(int place, int n) {
        if (noPlace(place) || noHours(n)) return BAD;
        int fewest = NONE;
        int which = 0;
        for (int set = 0; set <= now.allDoors(); set++) {
            if ((set & ~now.bought) != 0) continue;
            int many = Integer.bitCount(set);
            if (fewest != NONE && many >= fewest) continue;
            if (ways.hoursTo(now, now.bought & ~set, place) <= n) continue;
            fewest = many;
            which = set;
        }
        if (fewest != NONE) told = which;
        return fewest;
    }

    public int worth(int i, int place) {
        if (noDoor(i) || noPlace(place)) return BAD;
        int without = ways.hoursTo(now, now.bought & ~(1 << i), place);
        int with = ways.hoursTo(now, now.bought | 1 << i, place);
        return without - with;
    }

    // ---- 5 who came out

    public int fits(int i, int r) {
        int refusal = clueRefusal(i, r);
        if (refusal != FINE) return refusal;
        int canStand = 0;
        int canLead = 0;
        for (int p = 0; p < now.places; p++) {
            if (agrees(now.kind[i], p, now.leads[i], rows[r])) canStand |= 1 << p;
            if (agrees(now.kind[i], now.stands[i], p, rows[r])) canLead |= 1 << p;
        }
        told = canLead;
        return canStand;
    }

    public int kinds(int i, int r) {
        int refusal = clueRefusal(i, r);
        if (refusal != FINE) return refusal;
        int can = 0;
        for (int k = 0; k < KINDS; k++) {
            if (agrees(k, now.stands[i], now.leads[i], rows[r])) can |= 1 << k;
        }
        return can;
    }

    // ---- 6 rounds, faces

    public int round(int place) {
        if (noPlace(place)) return BAD;
        for (int p = 0; p < MOST_PLACES; p++) seenAfter[p] = NONE;
        int here = place;
        for (int gone = 0; gone <= now.places; gone++) {
            if (seenAfter[here] != NONE) {
                told = here;
                return gone - seenAfter[here];
            }
            seenAfter[here] = gone;
            int i = now.firstDoorInto(here);
            if (i == NONE) return NONE;
            here = now.exitOf(i);
        }
        return NONE;
    }

    public int faces() {
        if (now.doors == 0) return STATE;
        int pairs = 0;
        int first = NONE;
        for (int i = 0; i < now.doors; i++) {
            for (int j = i + 1; j < now.doors; j++) {
                if (!now.areFaceToFace(i, j)) continue;
                if (pairs == 0) first = 10 * i + j;
                pairs++;
            }
        }
        told = first;
        return pairs;
    }

    // ---- 7 by turns

    public int chase(int smuggler, int collector, int n) {
        if (now.doors == 0) return STATE;
        if (noPlace(smuggler) || noPlace(collector) || n < 0 || n > MOST_TURNS) return BAD;
        return hunt.turnsTillHad(now, smuggler, collector, n);
    }

    // ---- 8 chances, lots

    public int odds(int place, int n, int p) {
        if (noPlace(place) || noHours(n) || noChance(p)) return BAD;
        long good = 0;
        for (int open = 0; open <= now.allDoors(); open++) {
            if ((open & ~now.bought) != 0) continue;
            if (ways.hoursTo(now, open, place) <= n) good += casesWith(open, p);
        }
        tellFraction(good, allCases());
        return 1;
    }

    public int mid(int place, int p) {
        if (noPlace(place) || noChance(p)) return BAD;
        long hours = 0;
        for (int open = 0; open <= now.allDoors(); open++) {
            if ((open & ~now.bought) != 0) continue;
            hours += casesWith(open, p) * ways.hoursTo(now, open, place);
        }
        tellFraction(hours, allCases());
        return 1;
    }

    public int lots(int n, int seed) {
        if (n < 1 || n > MOST_LOTS || seed < 1 || seed >= LOT_MODULUS) return BAD;
        if (now.doors == 0) return STATE;
        if (!now.hasRoomFor(n)) return FULL;
        long lot = seed;
        for (int k = 0; k < n; k++) {
            lot = lot * LOT_FACTOR % LOT_MODULUS;
            now.perform(stepByLot(lot));
        }
        return now.place;
    }

    // ---- 9 what is told

    public int asked() {
        return told;
    }

    public long upper() {
        return over;
    }

    public long lower() {
        return under;
    }

    public int count(int what) {
        switch (what) {
            case 0: return now.doors;
            case 1: return now.places;
            case 2: return now.place;
            case 3: return now.hour;
            case 4: return now.purse;
            case 5: return now.deeds;
            case 6: return now.bought;
            case 7: return doorsOf(DUTCH);
            case 8: return howManyThere(rows);
            case 9: return howManyThere(texts);
            case 10: return keptCountries();
            default: return BAD;
        }
    }

    public int finding() {
        return lastFound;
    }

    public int findings(int f) {
        if (f < 1 || f > FINDINGS) return BAD;
        return found[f];
    }

    public long digest() {
        long h = 17;
        for (int what = 0; what < COUNTS; what++) h = 31 * h + count(what);
        for (int i = 0; i < now.doors; i++) {
            for (int what = 0; what < FACTS; what++) h = 31 * h + factOf(i, what);
        }
        for (int k = 0; k < KEPT; k++) h = 31 * h + (kept[k].doors == 0 ? -1 : kept[k].deeds);
        for (int r = 0; r < ROWS; r++) h = rows[r].digestOnto(h);
        for (int t = 0; t < TEXTS; t++) h = texts[t].digestOnto(h);
        return h;
    }

    // ---- numbers that are none

    private static boolean noRow(int r) {
        return r < 0 || r >= ROWS;
    }

    private static boolean noText(int t) {
        return t < 0 || t >= TEXTS;
    }

    private static boolean noKeeping(int k) {
        return k < 0 || k >= KEPT;
    }

    private static boolean noHours(int n) {
        return n < 0 || n > MOST_HOURS;
    }

    private static boolean noChance(int p) {
        return p < 0 || p > CHANCE_PARTS;
    }

    private boolean noDoor(int i) {
        return i < 0 || i >= now.doors;
    }

    private boolean noPlace(int place) {
        return place < 0 || place >= now.places;
    }

    // ---- refusals

    private int find(int f) {
        lastFound = f;
        found[f]++;
        return FINDING;
    }

    private int cellRefusal(int r, int i) {
        if (noRow(r)) return BAD;
        if (rows[r].missing()) return find(NOTHING);
        if (!rows[r].holds(i, 1)) return find(BEYOND);
        return FINE;
    }

    private int clueRefusal(int i, int r) {
        if (noDoor(i) || noRow(r)) return BAD;
        if (rows[r].missing()) return find(NOTHING);
        if (rows[r].size % CLUE != 0) return find(SIZE);
        for (int c = 0; c + 2 < rows[r].size; c += CLUE) {
            int hour = rows[r].cells[c];
            boolean badHour = hour < 0 || hour > LATEST_CLUE;
            if (badHour || noPlace(rows[r].cells[c + 1]) || noPlace(rows[r].cells[c + 2])) return find(UNLIKE);
        }
        return FINE;
    }

    // ---- what the calls share

    private int factOf(int i, int what) {
        switch (what) {
            case 0: return now.kind[i];
            case 1: return now.stands[i];
            case 2: return now.leads[i];
            case 3: return now.costOf(i);
            case 4: return now.entryOf(i, now.hour);
            case 5: return now.isOpen(i, now.hour) ? 1 : 0;
            case 6: return now.hoursOf(i);
            default: return now.owns(i) ? 1 : 0;
        }
    }

    private int otherOpenDoors(int i) {
        int open = 0;
        for (int j = 0; j < now.doors; j++) {
            if (j != i && now.isOpen(j, now.hour)) open++;
        }
        return open;
    }

    private int doorsOf(int kind) {
        int many = 0;
        for (int i = 0; i < now.doors; i++) {
            if (now.isOf(i, kind)) many++;
        }
        return many;
    }

    private static int howManyThere(Row[] among) {
        int there = 0;
        for (int r = 0; r < among.length; r++) {
            if (!among[r].missing()) there++;
        }
        return there;
    }

    private int keptCountries() {
        int many = 0;
        for (int k = 0; k < KEPT; k++) {
            if (kept[k].doors != 0) many++;
        }
        return many;
    }

    private boolean agrees(int kindNumber, int stands, int leads, Row clues) {
        Kind kind = now.numbered(kindNumber);
        for (int c = 0; c + 2 < clues.size; c += CLUE) {
            int hour = clues.cells[c];
            if (!kind.opensIn(hour)) return false;
            if (now.ring(kind.entry(stands, leads, hour)) != clues.cells[c + 1]) return false;
            if (kind.exit(stands, leads) != clues.cells[c + 2]) return false;
        }
        return true;
    }

    private int stepByLot(long lot) {
        int i = (int) (lot / 8 % Math.max(1, now.doors));
        if (now.canPass(i)) return i;
        return lot % 3 == 0 ? ROAD : WAITING;
    }

    /** How many of the allCases() leave just these of the doors that are bought open. */
    private long casesWith(int open, int p) {
        long cases = 1;
        for (int i = 0; i < now.doors; i++) {
            if (now.owns(i)) cases *= (open >> i & 1) == 1 ? CHANCE_PARTS - p : p;
        }
        return cases;
    }

    private long allCases() {
        long cases = 1;
        for (int i = 0; i < now.doors; i++) {
            if (now.owns(i)) cases *= CHANCE_PARTS;
        }
        return cases;
    }

    private void tellFraction(long part, long whole) {
        long a = whole;
        long b = part;
        // Euclid's steps at least halve a number every two, so 128 are enough for any two longs.
        for (int k = 0; k < 128 && b != 0; k++) {
            long rest = a % b;
            a = b;
            b = rest;
        }
        if (a < 1) a = 1;
        over = part / a;
        under = whole / a;
    }

    /** A ROW or a TEXT: as many cells as there may be at most, and how many there are now. */
    private static final class Row {
        static final int MISSING = -1;

        final int[] cells;
        int size = MISSING;

        Row(int most) {
            cells = new int[Math.max(0, most)];
        }

        boolean missing() {
            return size == MISSING;
        }

        void make(int n, int filler) {
            size = Math.min(n, cells.length);
            for (int i = 0; i < size; i++) cells[i] = filler;
        }

        boolean holds(int from, int n) {
            return from >= 0 && from <= size && n <= size - from;
        }

        void append(int v) {
            if (size < 0 || size >= cells.length) return;
            cells[size] = v;
            size++;
        }

        /** In a long, since forty ints may be more than an int holds. */
        long sum() {
            long sum = 0;
            for (int i = 0; i < size; i++) sum += cells[i];
            return sum;
        }

        long digestOnto(long before) {
            long h = 31 * before + size;
            for (int i = 0; i < size; i++) h = 31 * h + cells[i];
            return h;
        }
    }

    /** What all doors of a kind do alike: here a plain DOOR's ways; each other kind says in what it differs. */
    private static class Kind {
        /** Where one goes in, perhaps beyond the ring's last place. */
        int entry(int stands, int leads, int hour) {
            return stands;
        }

        int exit(int stands, int leads) {
            return leads;
        }

        boolean opensIn(int hour) {
            return true;
        }

        int hours() {
            return 1;
        }

        int cost(int price) {
            return price;
        }
    }

    private static class Dutch extends Kind {
        boolean opensIn(int hour) {
            return hour % 2 == 0;
        }

        int hours() {
            return 2;
        }
    }

    private static class Back extends Kind {
        int entry(int stands, int leads, int hour) {
            return leads;
        }

        int exit(int stands, int leads) {
            return stands;
        }

        int cost(int price) {
            return price / 2;
        }
    }

    private static final class Bricked extends Kind {
        static final int EVERY = 3;

        boolean opensIn(int hour) {
            return hour % EVERY == 0;
        }

        int cost(int price) {
            return 1;
        }
    }

    private static final class Study extends Back {
        int hours() {
            return super.hours() + 2;
        }

        int cost(int price) {
            return super.cost(price) + 3;
        }
    }

    private static final class Cart extends Dutch {
        int entry(int stands, int leads, int hour) {
            return stands + hour;
        }

        int hours() {
            return super.hours() - 1;
        }
    }

    /** Places, doors, where and when one is, and the deeds that led there. Without doors: there is no country. */
    private static final class Country {
        final Kind[] allKinds;
        final int[] kind = new int[MOST_DOORS];
        final int[] price = new int[MOST_DOORS];
        final int[] stands = new int[MOST_DOORS];
        final int[] leads = new int[MOST_DOORS];
        final int[] firstStands = new int[MOST_DOORS];
        final int[] firstLeads = new int[MOST_DOORS];
        final int[] log = new int[MOST_DEEDS];
        int places = 0;
        int doors = 0;
        int firstPurse = 0;
        int purse = 0;
        int place = 0;
        int hour = 0;
        int bought = 0;
        int deeds = 0;

        Country(Kind[] kinds) {
            allKinds = kinds;
        }

        void clear() {
            places = 0;
            doors = 0;
            firstPurse = 0;
            begin();
        }

        void addDoor(int kindNumber, int standing, int leading, int asPriced) {
            if (doors >= MOST_DOORS) return;
            kind[doors] = kindNumber;
            firstStands[doors] = standing;
            firstLeads[doors] = leading;
            price[doors] = asPriced;
            doors++;
        }

        /** All is as it was before the first deed. */
        void begin() {
            for (int i = 0; i < doors; i++) {
                stands[i] = firstStands[i];
                leads[i] = firstLeads[i];
            }
            purse = firstPurse;
            place = 0;
            hour = 0;
            bought = 0;
            deeds = 0;
        }

        /** Undoes by doing the first n deeds once more: what each of them changed need not be kept then. */
        void beginAgain(int n) {
            begin();
            for (int d = 0; d < n && d < MOST_DEEDS; d++) perform(log[d]);
        }

        void become(Country other) {
            System.arraycopy(other.kind, 0, kind, 0, MOST_DOORS);
            System.arraycopy(other.price, 0, price, 0, MOST_DOORS);
            System.arraycopy(other.stands, 0, stands, 0, MOST_DOORS);
            System.arraycopy(other.leads, 0, leads, 0, MOST_DOORS);
            System.arraycopy(other.firstStands, 0, firstStands, 0, MOST_DOORS);
            System.arraycopy(other.firstLeads, 0, firstLeads, 0, MOST_DOORS);
            System.arraycopy(other.log, 0, log, 0, MOST_DEEDS);
            places = other.places;
            doors = other.doors;
            firstPurse = other.firstPurse;
            purse = other.purse;
            place = other.place;
            hour = other.hour;
            bought = other.bought;
            deeds = other.deeds;
        }

        boolean hasRoomFor(int more) {
            return deeds + more <= MOST_DEEDS;
        }

        /** Does a deed that can be done (the calls look whether it can) and writes it down. */
        void perform(int deed) {
            if (!hasRoomFor(1)) return;
            log[deeds] = deed;
            deeds++;
            if (deed == ROAD) {
                place = ring(place + 1);
                hour += ROAD_HOURS;
            } else if (deed == WAITING) {
                hour++;
            } else if (deed >= SETTING) {
                setUp(deed - SETTING);
            } else if (deed >= SELLING) {
                bought &= ~(1 << deed - SELLING);
                purse += costOf(deed - SELLING) / 2;
            } else if (deed >= BUYING) {
                bought |= 1 << deed - BUYING;
                purse -= costOf(deed - BUYING);
            } else {
                pass(deed);
            }
        }

        private void pass(int i) {
            place = exitOf(i);
            hour += hoursOf(i);
        }

        private void setUp(int i) {
            if (isOf(i, BACK)) leads[i] = place;
            else if (isOf(i, CART)) stands[i] = ring(place - hour);
            else stands[i] = place;
        }

        /** The place that a number comes to round the ring. */
        int ring(int p) {
            return places > 0 ? Math.floorMod(p, places) : 0;
        }

        int allDoors() {
            return (1 << doors) - 1;
        }

        Kind numbered(int k) {
            return k >= 0 && k < allKinds.length ? allKinds[k] : allKinds[0];
        }

        boolean isOf(int i, int kindNumber) {
            Kind k = numbered(kind[i]);
            switch (kindNumber) {
                case DUTCH: return k instanceof Dutch;
                case BACK: return k instanceof Back;
                case BRICKED: return k instanceof Bricked;
                case STUDY: return k instanceof Study;
                case CART: return k instanceof Cart;
                default: return true;
            }
        }

        int entryOf(int i, int inHour) {
            return ring(numbered(kind[i]).entry(stands[i], leads[i], inHour));
        }

        int exitOf(int i) {
            return numbered(kind[i]).exit(stands[i], leads[i]);
        }

        boolean isOpen(int i, int inHour) {
            return numbered(kind[i]).opensIn(inHour);
        }

        int hoursOf(int i) {
            return numbered(kind[i]).hours();
        }

        int costOf(int i) {
            return numbered(kind[i]).cost(price[i]);
        }

        int costOfSet(int set) {
            int cost = 0;
            for (int i = 0; i < doors; i++) {
                if ((set >> i & 1) == 1) cost += costOf(i);
            }
            return cost;
        }

        boolean owns(int i) {
            return (bought >> i & 1) == 1;
        }

        boolean canPass(int i) {
            return owns(i) && isOpen(i, hour) && entryOf(i, hour) == place;
        }

        int firstDoorInto(int from) {
            for (int i = 0; i < doors; i++) {
                if (entryOf(i, hour) == from) return i;
            }
            return NONE;
        }

        boolean areFaceToFace(int i, int j) {
            return exitOf(i) == entryOf(j, hour) && exitOf(j) == entryOf(i, hour);
        }
    }

    /** Reads a country out of a text, until it can't go on. */
    private static final class Reader {
        private static final int HEAD = 110, NOUGHT_FIGURE = 48;
        private static final int[] LETTERS = {100, 117, 98, 107, 115, 99};

        private int next = 0;

        /** The text's fault, or NONE: then the country is filled by it, but has to begin yet. */
        int faultOf(Row text, Country into) {
            into.clear();
            next = 0;
            skipBlanks(text);
            if (!readHead(text, into)) return next;
            skipBlanks(text);
            for (int d = 0; d <= MOST_DOORS && next < text.size; d++) {
                if (!readDoor(text, into)) return next;
                skipBlanks(text);
            }
            return into.doors == 0 ? next : NONE;
        }

        private void skipBlanks(Row text) {
            while (next < text.size && text.cells[next] == BLANK) next++;
        }

        private boolean readHead(Row text, Country into) {
            if (next >= text.size || text.cells[next] != HEAD) return false;
            next++;
            int places = readFigure(text, 2, MOST_PLACES);
            if (places == NONE) return false;
            int tens = readFigure(text, 0, 9);
            if (tens == NONE) return false;
            int ones = readFigure(text, 0, 9);
            if (ones == NONE) return false;
            into.places = places;
            into.firstPurse = 10 * tens + ones;
            return true;
        }

        private boolean readDoor(Row text, Country into) {
            if (into.doors == MOST_DOORS) return false;
            int kind = readLetter(text);
            if (kind == NONE) return false;
            int stands = readFigure(text, 0, into.places - 1);
            if (stands == NONE) return false;
            int leads = readFigure(text, 0, into.places - 1);
            if (leads == NONE) return false;
            int price = readFigure(text, 0, 9);
            if (price == NONE) return false;
            into.addDoor(kind, stands, leads, price);
            return true;
        }

        private int readLetter(Row text) {
            if (next >= text.size) return NONE;
            for (int k = 0; k < KINDS; k++) {
                if (text.cells[next] != LETTERS[k]) continue;
                next++;
                return k;
            }
            return NONE;
        }

        private int readFigure(Row text, int least, int most) {
            if (next >= text.size) return NONE;
            int figure = text.cells[next] - NOUGHT_FIGURE;
            if (figure < least || figure > most) return NONE;
            next++;
            return figure;
        }
    }

    /** Where one can be, hour after hour from now on, by a set of doors. Places are bits. */
    private static final class Ways {
        /** Where one can be in just so many hours. */
        final int[] reach = new int[MOST_HOURS + 1];
        /** From where, after so many hours, one can yet be at the told place in time. */
        private final int[] inTime = new int[MOST_HOURS + 1];

        int placesAfter(Country c, int set, int hours) {
            start(c);
            for (int t = 0; t < hours; t++) spread(c, set, t);
            return reach[hours];
        }

        /** The roads alone lead round the whole ring in 18 hours, so the place is always found. */
        int hoursTo(Country c, int set, int place) {
            start(c);
            for (int t = 0; t < MOST_HOURS; t++) {
                if ((reach[t] >> place & 1) == 1) return t;
                spread(c, set, t);
            }
            return MOST_HOURS;
        }

        private void start(Country c) {
            for (int t = 0; t <= MOST_HOURS; t++) reach[t] = 0;
            reach[0] = 1 << c.place;
        }

        /** From where one can be after so many hours on to where one can be later: hour by hour, none left out. */
        private void spread(Country c, int set, int t) {
            land(t + 1, reach[t]);
            land(t + ROAD_HOURS, oneOn(c, reach[t]));
            for (int i = 0; i < c.doors; i++) {
                if ((set >> i & 1) == 1 && canPassAfter(c, i, t)) land(t + c.hoursOf(i), 1 << c.exitOf(i));
            }
        }

        private void land(int t, int places) {
            if (t <= MOST_HOURS) reach[t] |= places;
        }

        private boolean canPassAfter(Country c, int i, int t) {
            return c.isOpen(i, c.hour + t) && (reach[t] >> c.entryOf(i, c.hour + t) & 1) == 1;
        }

        private static int oneOn(Country c, int among) {
            int last = 1 << Math.max(0, c.places - 1);
            return (among & ~last) << 1 | ((among & last) != 0 ? 1 : 0);
        }

        void traceBack(Country c, int place, int hours) {
            for (int t = 0; t <= MOST_HOURS; t++) inTime[t] = 0;
            inTime[hours] = 1 << place;
            for (int t = hours - 1; t >= 0; t--) {
                for (int p = 0; p < c.places; p++) {
                    if (firstStep(c, p, t) != NONE) inTime[t] |= 1 << p;
                }
            }
        }

        /** Each step takes an hour at least, so there are no more of them than hours. */
        void firstSteps(Country c, int hours, Row into) {
            int p = c.place;
            int t = 0;
            for (int k = 0; k < hours && t < hours; k++) {
                int step = firstStep(c, p, t);
                if (step == NONE) return;
                into.append(step);
                p = placeAfter(c, step, p);
                t += hoursFor(c, step);
            }
        }

        /** The first step by numbers, from a place after so many hours, behind which one is still in time. */
        private int firstStep(Country c, int p, int t) {
            for (int step = 0; step < STEPS; step++) {
                if (!canStep(c, step, p, t)) continue;
                int then = t + hoursFor(c, step);
                if (then > MOST_HOURS) continue;
                if ((inTime[then] >> placeAfter(c, step, p) & 1) == 1) return step;
            }
            return NONE;
        }

        private static boolean canStep(Country c, int step, int p, int t) {
            if (step == ROAD || step == WAITING) return true;
            int h = c.hour + t;
            return step < c.doors && c.owns(step) && c.isOpen(step, h) && c.entryOf(step, h) == p;
        }

        private static int placeAfter(Country c, int step, int p) {
            if (step == WAITING) return p;
            return step == ROAD ? c.ring(p + 1) : c.exitOf(step);
        }

        private static int hoursFor(Country c, int step) {
            if (step == WAITING) return 1;
            return step == ROAD ? ROAD_HOURS : c.hoursOf(step);
        }
    }

    /** A smuggler and a collector by turns. */
    private static final class Chase {
        private static final int NEVER = 99;

        /** The places (bits) to which a turn can lead from each. */
        private final int[] moves = new int[MOST_PLACES];
        /** In how many turns the smuggler is had, by both their places, before this turn and behind it. */
        private final int[] had = new int[MOST_PLACES * MOST_PLACES];
        private final int[] hadThen = new int[MOST_PLACES * MOST_PLACES];

        int turnsTillHad(Country c, int smuggler, int collector, int n) {
            findMoves(c);
            for (int s = 0; s < c.places; s++) {
                for (int k = 0; k < c.places; k++) had[MOST_PLACES * s + k] = s == k ? 0 : NEVER;
            }
            for (int turn = n - 1; turn >= 0; turn--) {
                System.arraycopy(had, 0, hadThen, 0, had.length);
                weighTurn(c, turn % 2 == 0);
            }
            int turns = had[MOST_PLACES * smuggler + collector];
            return turns >= NEVER ? NONE : turns;
        }

        private void findMoves(Country c) {
            for (int p = 0; p < c.places; p++) moves[p] = 1 << p | 1 << c.ring(p + 1);
            for (int i = 0; i < c.doors; i++) moves[c.entryOf(i, c.hour)] |= 1 << c.exitOf(i);
        }

        private void weighTurn(Country c, boolean smugglers) {
            for (int s = 0; s < c.places; s++) {
                for (int k = 0; k < c.places; k++) {
                    if (s == k) continue;
                    int turns = 1 + (smugglers ? latest(c, s, k) : earliest(c, s, k));
                    had[MOST_PLACES * s + k] = Math.min(NEVER, turns);
                }
            }
        }

        private int latest(Country c, int s, int k) {
            int most = 0;
            for (int p = 0; p < c.places; p++) {
                if ((moves[s] >> p & 1) == 1) most = Math.max(most, hadThen[MOST_PLACES * p + k]);
            }
            return most;
        }

        private int earliest(Country c, int s, int k) {
            int least = NEVER;
            for (int p = 0; p < c.places; p++) {
                if ((moves[k] >> p & 1) == 1) least = Math.min(least, hadThen[MOST_PLACES * s + p]);
            }
            return least;
        }
    }
}
