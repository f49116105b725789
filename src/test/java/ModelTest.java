import java.lang.reflect.Method;
import java.util.HashMap;
import java.util.Map;
import java.util.Random;

/** All promises: runs of calls by chance (of a fixed seed), each answered by the class as by the model. */
public final class ModelTest {
    private static final int RUNS = 600, CALLS = 512;
    private static final int[] EXTREMES = {Integer.MIN_VALUE, Integer.MIN_VALUE + 1, -100, -2, -1, 41, 61, 100,
        Integer.MAX_VALUE - 1, Integer.MAX_VALUE};

    private final Random chance;
    private final DoorSold real = new DoorSold();
    private final Model model = new Model();
    private final Map<String, Integer> tally;
    private int calls = 0;

    private ModelTest(long seed, Map<String, Integer> tally) {
        chance = new Random(seed);
        this.tally = tally;
    }

    public static void main(String[] args) {
        Map<String, Integer> tally = new HashMap<>();
        for (int run = 0; run < RUNS; run++) new ModelTest(run, tally).run();
        everyCallWasAnswered(tally);
        Due.end();
    }

    /** A call that was only ever refused by these runs would not have been tested by them. */
    private static void everyCallWasAnswered(Map<String, Integer> tally) {
        for (Method m : DoorSold.class.getDeclaredMethods()) {
            if (!java.lang.reflect.Modifier.isPublic(m.getModifiers())) continue;
            Due.due(m.getName() + " was answered often", tally.getOrDefault(m.getName(), 0) > 50 ? 1 : 0, 1);
        }
    }

    private void run() {
        if (chance.nextInt(10) > 0) writeCountry(false);
        while (calls < CALLS) {
            int kind = chance.nextInt(100);
            if (kind < 1) writeCountry(chance.nextInt(3) == 0);
            else if (kind < 4) writeClues();
            else if (kind < 12) call(pick("buy", "buy", "buy", "go", "set"), index(6));
            else anyCall();
        }
        call("digest");
    }

    private String pick(String... names) {
        return names[chance.nextInt(names.length)];
    }

    /** Mostly a number below the size, at times one beyond it. */
    private int index(int size) {
        int kind = chance.nextInt(24);
        if (kind == 0) return EXTREMES[chance.nextInt(EXTREMES.length)];
        if (kind == 1) return size;
        return chance.nextInt(size);
    }

    private int any() {
        return chance.nextInt(4) == 0 ? chance.nextInt() : chance.nextInt(260) - 5;
    }

    private int place() {
        return index(Math.max(1, model.count(1)));
    }

    private int door() {
        return index(Math.max(1, model.count(0)));
    }

    private void anyCall() {
        switch (chance.nextInt(43)) {
            case 0: call("row", index(6), index(chance.nextBoolean() ? 41 : 5)); break;
            case 1: call("lay", index(6), index(5), any()); break;
            case 2: call("at", index(6), index(5)); break;
            case 3: if (chance.nextInt(4) == 0) call("tear", index(6)); break;
            case 4: call("copy", index(6), index(4), index(6), index(4), index(4)); break;
            case 5: call("mean", index(6)); break;
            case 6: if (chance.nextInt(9) == 0) call("text", index(4), index(61)); break;
            case 7: call("put", 1 + index(3), index(20), any()); break;
            case 8: call("fault", index(4)); break;
            case 9: if (chance.nextInt(9) == 0) call("country", index(4)); break;
            case 10: call("door", door(), index(8)); break;
            case 11: call("mark", door(), 1 + index(5)); break;
            case 12: call("road"); break;
            case 13: call("stay"); break;
            case 14: case 15: call("go", door()); break;
            case 16: call("buy", door()); break;
            case 17: if (chance.nextInt(3) == 0) call("sell", door()); break;
            case 18: call("set", door()); break;
            case 19: call("undo", Math.max(0, model.count(5) - chance.nextInt(6)) + (chance.nextInt(9) == 0 ? 6 : 0)); break;
            case 20: call("keep", index(3)); break;
            case 21: if (chance.nextInt(3) == 0) call("on", index(3)); break;
            case 22: call("where", index(31)); break;
            case 23: call("soonest", place()); break;
            case 24: call("way", place(), index(6)); break;
            case 25: call("cheapest", place(), index(chance.nextBoolean() ? 31 : 8)); break;
            case 26: call("shut", place(), index(chance.nextBoolean() ? 31 : 8)); break;
            case 27: call("worth", door(), place()); break;
            case 28: call("fits", door(), index(6)); break;
            case 29: call("kinds", door(), index(6)); break;
            case 30: call("round", place()); break;
            case 31: call("faces"); break;
            case 32: call("chase", place(), place(), index(7)); break;
            case 33: call("odds", place(), index(chance.nextBoolean() ? 31 : 8), index(13)); break;
            case 34: call("mid", place(), index(13)); break;
            case 35: if (chance.nextInt(3) == 0) call("lots", index(21), chance.nextInt()); break;
            case 36: call("asked"); break;
            case 37: call("upper"); break;
            case 38: call("lower"); break;
            case 39: call("count", index(11)); break;
            case 40: call("finding"); break;
            case 41: call("findings", 1 + index(5)); break;
            default: call("digest"); break;
        }
    }

    private void writeCountry(boolean spoilt) {
        String signs = countryByChance();
        if (spoilt) signs = spoil(signs);
        int t = chance.nextInt(4);
        call("text", t, signs.length());
        for (int i = 0; i < signs.length() && i < 60; i++) {
            if (signs.charAt(i) != ' ') call("put", t, i, signs.charAt(i));
        }
        call("fault", t);
        call("country", t);
    }

    private String blanks() {
        return " ".repeat(Math.max(0, chance.nextInt(5) - 2));
    }

    private String countryByChance() {
        int places = 2 + chance.nextInt(6);
        StringBuilder b = new StringBuilder(blanks()).append('n').append(places);
        b.append(chance.nextInt(10)).append(chance.nextInt(10)).append(blanks());
        int doors = 1 + chance.nextInt(6);
        for (int d = 0; d < doors; d++) {
            b.append("dubksc".charAt(chance.nextInt(6))).append(chance.nextInt(places)).append(chance.nextInt(places));
            b.append(chance.nextInt(10)).append(blanks());
        }
        return b.toString();
    }

    private String spoil(String signs) {
        int at = chance.nextInt(signs.length());
        String sign = "" + "0123456789dubkscn xD".charAt(chance.nextInt(20));
        switch (chance.nextInt(4)) {
            case 0: return signs.substring(0, at);
            case 1: return signs.substring(0, at) + sign + signs.substring(at + 1);
            case 2: return signs.substring(0, at) + sign + signs.substring(at);
            default: return signs + signs.trim().substring(4);
        }
    }

    /** Triples that a door may have been gone through by, one of them at times not. */
    private void writeClues() {
        if (model.count(0) == 0) return;
        int i = chance.nextInt(model.count(0));
        int r = chance.nextInt(6);
        int triples = 1 + chance.nextInt(3);
        int places = model.count(1);
        call("row", r, 3 * triples + (chance.nextInt(9) == 0 ? 1 : 0));
        for (int c = 0; c < triples; c++) {
            int hour = chance.nextInt(9) == 0 ? 95 + chance.nextInt(7) : 6 * chance.nextInt(17);
            int ahead = (hour - model.count(3)) % places;
            model.door(i, 4);
            int in = model.asked();
            model.door(i, 0);
            int kind = model.asked();
            if (kind == 5) in = ((in + ahead) % places + places) % places;
            model.door(i, kind == 2 || kind == 4 ? 1 : 2);
            int out = model.asked();
            real.door(i, kind == 2 || kind == 4 ? 1 : 2);
            call("lay", r, 3 * c, hour);
            call("lay", r, 3 * c + 1, chance.nextInt(12) == 0 ? place() : in);
            call("lay", r, 3 * c + 2, chance.nextInt(12) == 0 ? place() : out);
        }
        call("fits", i, r);
        call("asked");
        call("kinds", i, r);
    }

    private void call(String name, int... args) {
        if (calls >= CALLS) return;
        calls++;
        long want = Due.answer(model, name, args);
        long got = Due.answer(real, name, args);
        String said = Due.said(name, args);
        Due.due(said, got, want);
        if (want >= 0 || want == DoorSold.NONE || args.length == 0) tally.merge(name, 1, Integer::sum);
        Due.due(said + ", then asked()", real.asked(), model.asked());
        Due.due(said + ", then upper()", real.upper(), model.upper());
        Due.due(said + ", then lower()", real.lower(), model.lower());
        Due.due(said + ", then finding()", real.finding(), model.finding());
        Due.due(said + ", then digest()", real.digest(), model.digest());
    }
}
