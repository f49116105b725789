import java.math.BigInteger;
import java.util.ArrayList;
import java.util.Arrays;
import java.util.Collections;
import java.util.List;
import java.util.regex.Matcher;
import java.util.regex.Pattern;

/**
 * The document once more, by other means than the class: states are kept whole instead of deeds, texts are read by
 * patterns, hours are looked at backwards, turns and chances are tried one by one.
 */
final class Model {
    static final int BAD = -1, FULL = -2, FINDING = -3, STATE = -4, SPENT = -6, NONE = -9;
    private static final int NOTHING = 1, BEYOND = 2, UNLIKE = 3, NOUGHT = 4, SIZE = 5;
    private static final String LETTERS = "dubksc";

    private record Door(int kind, int at, int leads, int price) {
        boolean is(int other) {
            return other == 0 || kind == other || kind == 4 && other == 2 || kind == 5 && other == 1;
        }

        int in(int hour, int places) {
            if (is(2)) return leads;
            return kind == 5 ? (at + hour) % places : at;
        }

        int out() {
            return is(2) ? at : leads;
        }

        boolean open(int hour) {
            if (is(1)) return hour % 2 == 0;
            return kind != 3 || hour % 3 == 0;
        }

        int hours() {
            return new int[] {1, 2, 1, 1, 3, 1}[kind];
        }

        int cost() {
            return new int[] {price, price, price / 2, 1, price / 2 + 3, price}[kind];
        }
    }

    private record World(int places, int purse, int place, int hour, int bought, List<Door> doors) {
        boolean owns(int i) {
            return (bought >> i & 1) == 1;
        }

        Door with(int i) {
            return doors.get(i);
        }

        int in(int i) {
            return with(i).in(hour, places);
        }

        boolean passable(int i) {
            return owns(i) && with(i).open(hour) && in(i) == place;
        }

        World later(int toPlace, int hours) {
            return new World(places, purse, toPlace, hour + hours, bought, doors);
        }

        World traded(int newPurse, int i) {
            return new World(places, newPurse, place, hour, bought ^ 1 << i, doors);
        }

        World placed(int i) {
            Door d = with(i);
            List<Door> changed = new ArrayList<>(doors);
            if (d.is(2)) changed.set(i, new Door(d.kind, d.at, place, d.price));
            else if (d.kind != 5) changed.set(i, new Door(d.kind, place, d.leads, d.price));
            else changed.set(i, new Door(d.kind, ((place - hour) % places + places) % places, d.leads, d.price));
            return new World(places, purse, place, hour, bought, changed);
        }

        int soonest(int set, int target) {
            int t = 0;
            Boolean[][] known = new Boolean[31][places];
            while (!can(set, t, target, known)) t++;
            return t;
        }

        /** Whether one can be at p in just t hours: by the last step that leads there. */
        boolean can(int set, int t, int p, Boolean[][] known) {
            if (t == 0) return p == place;
            if (known[t][p] != null) return known[t][p];
            boolean yes = can(set, t - 1, p, known);
            if (t >= 3) yes |= can(set, t - 3, (p + places - 1) % places, known);
            for (int i = 0; i < doors.size(); i++) {
                Door d = with(i);
                int before = t - d.hours();
                if ((set >> i & 1) == 0 || d.out() != p || before < 0 || !d.open(hour + before)) continue;
                yes |= can(set, before, d.in(hour + before, places), known);
            }
            known[t][p] = yes;
            return yes;
        }
    }

    private final int[][] rows = new int[6][];
    private final byte[][] texts = new byte[4][];
    private static final World NOWHERE = new World(0, 0, 0, 0, 0, List.of());
    /** How it was before each deed, and how it is now. */
    private List<World> story = new ArrayList<>(List.of(NOWHERE));
    private final List<List<World>> kept = new ArrayList<>(Arrays.asList(null, null, null));
    private int asked = 0;
    private long upper = 0;
    private long lower = 1;
    private final List<Integer> found = new ArrayList<>();

    private World now() {
        return story.get(story.size() - 1);
    }

    private int deeds() {
        return story.size() - 1;
    }

    private int find(int f) {
        found.add(f);
        return FINDING;
    }

    private int tell(int what) {
        asked = what;
        return 1;
    }

    private static boolean out(int i, int size) {
        return i < 0 || i >= size;
    }

    private boolean noDoor(int i) {
        return out(i, now().doors.size());
    }

    private boolean noPlace(int p) {
        return out(p, now().places);
    }

    int row(int r, int n) {
        if (out(r, 6) || n > 40) return BAD;
        if (n < 0) return find(SIZE);
        rows[r] = new int[n];
        return n;
    }

    int lay(int r, int i, int v) {
        if (out(r, 6)) return BAD;
        if (rows[r] == null) return find(NOTHING);
        if (out(i, rows[r].length)) return find(BEYOND);
        tell(rows[r][i]);
        rows[r][i] = v;
        return 1;
    }

    int at(int r, int i) {
        if (out(r, 6)) return BAD;
        if (rows[r] == null) return find(NOTHING);
        if (out(i, rows[r].length)) return find(BEYOND);
        return tell(rows[r][i]);
    }

    int tear(int r) {
        if (out(r, 6)) return BAD;
        if (rows[r] == null) return find(NOTHING);
        rows[r] = null;
        return 1;
    }

    int copy(int r, int i, int to, int j, int n) {
        if (out(r, 6) || out(to, 6)) return BAD;
        if (n < 0) return find(SIZE);
        if (rows[r] == null || rows[to] == null) return find(NOTHING);
        boolean beyond = i < 0 || j < 0 || (long) i + n > rows[r].length || (long) j + n > rows[to].length;
        if (beyond) return find(BEYOND);
        int[] taken = Arrays.copyOfRange(rows[r], i, i + n);
        for (int k = 0; k < n; k++) rows[to][j + k] = taken[k];
        return 1;
    }

    int mean(int r) {
        if (out(r, 6)) return BAD;
        if (rows[r] == null) return find(NOTHING);
        if (rows[r].length == 0) return find(NOUGHT);
        BigInteger sum = BigInteger.ZERO;
        for (int v : rows[r]) sum = sum.add(BigInteger.valueOf(v));
        return tell(sum.divide(BigInteger.valueOf(rows[r].length)).intValueExact());
    }

    int text(int t, int n) {
        if (out(t, 4) || n > 60) return BAD;
        if (n < 0) return find(SIZE);
        texts[t] = new byte[n];
        Arrays.fill(texts[t], (byte) 32);
        return n;
    }

    int put(int t, int i, int v) {
        if (out(t, 4)) return BAD;
        if (texts[t] == null) return find(NOTHING);
        if (out(i, texts[t].length)) return find(BEYOND);
        int was = texts[t][i];
        texts[t][i] = (byte) v;
        return was + 1000;
    }

    private static String signs(byte[] text) {
        StringBuilder b = new StringBuilder();
        for (byte sign : text) b.append((char) (sign & 255));
        return b.toString();
    }

    private static Matcher matcher(int places, String signs) {
        String place = "[0-" + (places - 1) + "]";
        String doors = "(?:[" + LETTERS + "]" + place + place + "[0-9] *){1,6}";
        return Pattern.compile(" *n" + places + "([0-9]{2}) *(" + doors + ")").matcher(signs);
    }

    private static boolean whole(String signs) {
        for (int n = 2; n <= 7; n++) {
            if (matcher(n, signs).matches()) return true;
        }
        return false;
    }

    /** Whether a text that begins so can be a country. */
    private static boolean canGoOn(String signs) {
        for (int n = 2; n <= 7; n++) {
            Matcher m = matcher(n, signs);
            if (m.matches() || m.hitEnd()) return true;
        }
        return false;
    }

    private static int faultOf(String signs) {
        if (whole(signs)) return NONE;
        for (int i = 0; i < signs.length(); i++) {
            if (!canGoOn(signs.substring(0, i + 1))) return i;
        }
        return signs.length();
    }

    int fault(int t) {
        if (out(t, 4)) return BAD;
        if (texts[t] == null) return find(NOTHING);
        return faultOf(signs(texts[t]));
    }

    int country(int t) {
        if (out(t, 4)) return BAD;
        if (texts[t] == null) return find(NOTHING);
        String signs = signs(texts[t]);
        if (faultOf(signs) != NONE) return STATE;
        for (int n = 2; n <= 7; n++) {
            Matcher m = matcher(n, signs);
            if (!m.matches()) continue;
            String doors = m.group(2).replace(" ", "");
            List<Door> read = new ArrayList<>();
            for (int d = 0; d < doors.length(); d += 4) {
                read.add(new Door(LETTERS.indexOf(doors.charAt(d)), doors.charAt(d + 1) - '0',
                        doors.charAt(d + 2) - '0', doors.charAt(d + 3) - '0'));
            }
            story = new ArrayList<>(List.of(new World(n, Integer.parseInt(m.group(1)), 0, 0, 0, read)));
        }
        Collections.fill(kept, null);
        return now().doors.size();
    }

    private int fact(int i, int what) {
        World w = now();
        Door d = w.with(i);
        int[] facts = {d.kind, d.at, d.leads, d.cost(), w.in(i), d.open(w.hour) ? 1 : 0, d.hours(), w.owns(i) ? 1 : 0};
        return facts[what];
    }

    int door(int i, int what) {
        if (noDoor(i) || out(what, 8)) return BAD;
        return tell(fact(i, what));
    }

    int mark(int i, int kind) {
        if (noDoor(i) || kind < 1 || kind > 5) return BAD;
        World w = now();
        Door d = w.with(i);
        if (!d.is(kind)) return find(UNLIKE);
        int told = 0;
        if (kind == 1) {
            for (int j = 0; j < w.doors.size(); j++) told += j != i && w.with(j).open(w.hour) ? 1 : 0;
        } else if (kind == 2) {
            told = Math.max(0, d.price - d.cost());
        } else if (kind == 3) {
            while (!d.open(w.hour + told)) told++;
        } else if (kind == 4) {
            for (int p = w.in(i); p != d.out(); p = (p + 1) % w.places) told += 3;
        } else {
            while (d.in(w.hour + told, w.places) != w.place) told++;
        }
        return told;
    }

    private boolean did(World then) {
        if (deeds() >= 40) return false;
        story.add(then);
        return true;
    }

    int road() {
        if (now().doors.isEmpty()) return STATE;
        return did(now().later((now().place + 1) % now().places, 3)) ? now().place : FULL;
    }

    int stay() {
        if (now().doors.isEmpty()) return STATE;
        return did(now().later(now().place, 1)) ? now().hour : FULL;
    }

    int go(int i) {
        if (noDoor(i)) return BAD;
        if (!now().passable(i)) return STATE;
        return did(now().later(now().with(i).out(), now().with(i).hours())) ? now().place : FULL;
    }

    int buy(int i) {
        if (noDoor(i)) return BAD;
        if (now().owns(i)) return STATE;
        int cost = now().with(i).cost();
        if (cost > now().purse) return SPENT;
        return did(now().traded(now().purse - cost, i)) ? now().purse : FULL;
    }

    int sell(int i) {
        if (noDoor(i)) return BAD;
        if (!now().owns(i)) return STATE;
        return did(now().traded(now().purse + now().with(i).cost() / 2, i)) ? now().purse : FULL;
    }

    int set(int i) {
        if (noDoor(i)) return BAD;
        if (!now().owns(i) || now().in(i) == now().place) return STATE;
        return did(now().placed(i)) ? now().with(i).at : FULL;
    }

    int undo(int n) {
        if (n < 0 || n > deeds()) return BAD;
        int undone = deeds() - n;
        story = new ArrayList<>(story.subList(0, n + 1));
        return undone;
    }

    int keep(int k) {
        if (out(k, 3)) return BAD;
        if (now().doors.isEmpty()) return STATE;
        kept.set(k, new ArrayList<>(story));
        return deeds();
    }

    int on(int k) {
        if (out(k, 3)) return BAD;
        if (kept.get(k) == null) return find(NOTHING);
        story = new ArrayList<>(kept.get(k));
        return deeds();
    }

    int where(int n) {
        if (out(n, 31)) return BAD;
        if (now().doors.isEmpty()) return STATE;
        int places = 0;
        Boolean[][] known = new Boolean[31][now().places];
        for (int p = 0; p < now().places; p++) {
            if (now().can(now().bought, n, p, known)) places += 1 << p;
        }
        return places;
    }

    int soonest(int place) {
        if (noPlace(place)) return BAD;
        int hours = now().soonest(now().bought, place);
        int many = 0;
        for (int p = 0; p < now().places; p++) {
            if (now().soonest(now().bought, p) <= hours) many++;
        }
        tell(many);
        return hours;
    }

    int way(int place, int r) {
        if (noPlace(place) || out(r, 6)) return BAD;
        World w = now();
        int hours = w.soonest(w.bought, place);
        String[][] first = new String[hours + 4][w.places];
        first[0][w.place] = "";
        for (int t = 0; t < hours; t++) {
            for (int p = 0; p < w.places; p++) {
                if (first[t][p] == null) continue;
                better(first, t + 1, p, first[t][p] + "7");
                better(first, t + 3, (p + 1) % w.places, first[t][p] + "6");
                for (int i = 0; i < w.doors.size(); i++) {
                    Door d = w.with(i);
                    if (!w.owns(i) || !d.open(w.hour + t) || d.in(w.hour + t, w.places) != p) continue;
                    better(first, t + d.hours(), d.out(), first[t][p] + i);
                }
            }
        }
        rows[r] = first[hours][place].chars().map(c -> c - '0').toArray();
        return rows[r].length;
    }

    private static void better(String[][] first, int t, int p, String steps) {
        if (first[t][p] == null || steps.compareTo(first[t][p]) < 0) first[t][p] = steps;
    }

    private int costOf(int set) {
        int cost = 0;
        for (int i = 0; i < now().doors.size(); i++) cost += (set >> i & 1) * now().with(i).cost();
        return cost;
    }

    int cheapest(int place, int n) {
        if (noPlace(place) || out(n, 31)) return BAD;
        World w = now();
        List<Integer> sets = new ArrayList<>();
        for (int set = 0; set < 1 << w.doors.size(); set++) {
            if ((set & w.bought) == 0 && w.soonest(w.bought + set, place) <= n) sets.add(set);
        }
        if (sets.isEmpty()) return NONE;
        sets.sort((a, b) -> costOf(a) != costOf(b) ? costOf(a) - costOf(b) : a - b);
        tell(sets.get(0));
        return costOf(sets.get(0));
    }

    int shut(int place, int n) {
        if (noPlace(place) || out(n, 31)) return BAD;
        World w = now();
        List<Integer> sets = new ArrayList<>();
        for (int set = 0; set < 1 << w.doors.size(); set++) {
            if ((set | w.bought) == w.bought && w.soonest(w.bought - set, place) > n) sets.add(set);
        }
        if (sets.isEmpty()) return NONE;
        sets.sort((a, b) -> {
            int fewer = Integer.bitCount(a) - Integer.bitCount(b);
            return fewer != 0 ? fewer : a - b;
        });
        tell(sets.get(0));
        return Integer.bitCount(sets.get(0));
    }

    int worth(int i, int place) {
        if (noDoor(i) || noPlace(place)) return BAD;
        int other = now().soonest(now().bought ^ 1 << i, place);
        int own = now().soonest(now().bought, place);
        return now().owns(i) ? other - own : own - other;
    }

    private int cluesRefused(int i, int r) {
        if (noDoor(i) || out(r, 6)) return BAD;
        if (rows[r] == null) return find(NOTHING);
        if (rows[r].length % 3 != 0) return find(SIZE);
        for (int c = 0; c < rows[r].length; c++) {
            if (out(rows[r][c], c % 3 == 0 ? 100 : now().places)) return find(UNLIKE);
        }
        return 0;
    }

    private int agrees(Door d, int r) {
        for (int c = 0; c < rows[r].length; c += 3) {
            int hour = rows[r][c];
            boolean so = d.open(hour) && d.in(hour, now().places) == rows[r][c + 1] && d.out() == rows[r][c + 2];
            if (!so) return 0;
        }
        return 1;
    }

    int fits(int i, int r) {
        int refused = cluesRefused(i, r);
        if (refused != 0) return refused;
        Door d = now().with(i);
        int stand = 0;
        int lead = 0;
        for (int p = 0; p < now().places; p++) {
            stand += agrees(new Door(d.kind, p, d.leads, d.price), r) << p;
            lead += agrees(new Door(d.kind, d.at, p, d.price), r) << p;
        }
        tell(lead);
        return stand;
    }

    int kinds(int i, int r) {
        int refused = cluesRefused(i, r);
        if (refused != 0) return refused;
        Door d = now().with(i);
        int kinds = 0;
        for (int k = 0; k < 6; k++) kinds += agrees(new Door(k, d.at, d.leads, d.price), r) << k;
        return kinds;
    }

    int round(int place) {
        if (noPlace(place)) return BAD;
        List<Integer> been = new ArrayList<>();
        int here = place;
        while (!been.contains(here)) {
            been.add(here);
            int next = NONE;
            for (int i = now().doors.size() - 1; i >= 0; i--) {
                if (now().in(i) == here) next = now().with(i).out();
            }
            if (next == NONE) return NONE;
            here = next;
        }
        tell(here);
        return been.size() - been.indexOf(here);
    }

    int faces() {
        if (now().doors.isEmpty()) return STATE;
        List<Integer> pairs = new ArrayList<>();
        for (int i = 0; i < now().doors.size(); i++) {
            for (int j = 0; j < i; j++) {
                if (now().in(i) == now().with(j).out() && now().in(j) == now().with(i).out()) pairs.add(10 * j + i);
            }
        }
        tell(pairs.isEmpty() ? NONE : Collections.min(pairs));
        return pairs.size();
    }

    int chase(int smuggler, int collector, int n) {
        if (now().doors.isEmpty()) return STATE;
        if (noPlace(smuggler) || noPlace(collector) || out(n, 7)) return BAD;
        int turns = turns(smuggler, collector, n, true);
        return turns > n ? NONE : turns;
    }

    private int turns(int s, int c, int left, boolean smuggler) {
        if (s == c) return 0;
        if (left == 0) return 100;
        int from = smuggler ? s : c;
        int moves = 1 << from | 1 << (from + 1) % now().places;
        for (int i = 0; i < now().doors.size(); i++) {
            if (now().in(i) == from) moves |= 1 << now().with(i).out();
        }
        int best = smuggler ? 0 : 1000;
        for (int p = 0; p < now().places; p++) {
            if ((moves >> p & 1) == 0) continue;
            int then = 1 + (smuggler ? turns(p, c, left - 1, false) : turns(s, p, left - 1, true));
            best = smuggler ? Math.max(best, then) : Math.min(best, then);
        }
        return best;
    }

    /** The sum over what may be bricked up, a door after the other, in parts of 12 to the power of 6. */
    private BigInteger expected(int place, int n, int p, int i, int open) {
        if (i == 6) {
            int hours = now().soonest(open, place);
            return BigInteger.valueOf(n < 0 ? hours : hours <= n ? 1 : 0);
        }
        boolean mine = i < now().doors.size() && now().owns(i);
        BigInteger bricked = expected(place, n, p, i + 1, open);
        if (!mine) return bricked.multiply(BigInteger.valueOf(12));
        BigInteger free = expected(place, n, p, i + 1, open | 1 << i);
        return bricked.multiply(BigInteger.valueOf(p)).add(free.multiply(BigInteger.valueOf(12 - p)));
    }

    private int tellFraction(BigInteger part) {
        BigInteger whole = BigInteger.valueOf(12).pow(6);
        BigInteger shared = part.gcd(whole);
        upper = part.divide(shared).longValueExact();
        lower = whole.divide(shared).longValueExact();
        return 1;
    }

    int odds(int place, int n, int p) {
        if (noPlace(place) || out(n, 31) || out(p, 13)) return BAD;
        return tellFraction(expected(place, n, p, 0, 0));
    }

    int mid(int place, int p) {
        if (noPlace(place) || out(p, 13)) return BAD;
        return tellFraction(expected(place, -1, p, 0, 0));
    }

    int lots(int n, int seed) {
        if (n < 1 || n > 20 || seed < 1 || seed > 2147483646) return BAD;
        if (now().doors.isEmpty()) return STATE;
        if (deeds() + n > 40) return FULL;
        BigInteger number = BigInteger.valueOf(seed);
        for (int k = 0; k < n; k++) {
            number = number.multiply(BigInteger.valueOf(48271)).mod(BigInteger.valueOf(2147483647));
            int i = number.intValueExact() / 8 % now().doors.size();
            if (go(i) >= 0) continue;
            if (number.intValueExact() % 3 == 0) road();
            else stay();
        }
        return now().place;
    }

    int asked() {
        return asked;
    }

    long upper() {
        return upper;
    }

    long lower() {
        return lower;
    }

    int count(int what) {
        World w = now();
        int dutch = (int) w.doors.stream().filter(d -> d.is(1)).count();
        int there = (int) Arrays.stream(rows).filter(r -> r != null).count();
        int written = (int) Arrays.stream(texts).filter(t -> t != null).count();
        int keptOnes = (int) kept.stream().filter(k -> k != null).count();
        int[] counts = {w.doors.size(), w.places, w.place, w.hour, w.purse, deeds(), w.bought, dutch, there, written,
            keptOnes};
        return out(what, counts.length) ? BAD : counts[what];
    }

    int finding() {
        return found.isEmpty() ? 0 : found.get(found.size() - 1);
    }

    int findings(int f) {
        return f < 1 || f > 5 ? BAD : Collections.frequency(found, f);
    }

    long digest() {
        List<Integer> values = new ArrayList<>();
        for (int what = 0; what <= 10; what++) values.add(count(what));
        for (int i = 0; i < now().doors.size(); i++) {
            for (int what = 0; what <= 7; what++) values.add(fact(i, what));
        }
        for (List<World> k : kept) values.add(k == null ? -1 : k.size() - 1);
        for (int[] row : rows) {
            values.add(row == null ? -1 : row.length);
            if (row != null) for (int v : row) values.add(v);
        }
        for (byte[] text : texts) {
            values.add(text == null ? -1 : text.length);
            if (text != null) for (byte v : text) values.add((int) v);
        }
        long h = 17;
        for (int v : values) h = 31 * h + v;
        return h;
    }
}
