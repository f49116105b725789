/** Promises 8 to 11: text, put, fault, country. */
public final class TextsTest {
    private static final int NOTHING = 1, BEYOND = 2, SIZE = 5;

    public static void main(String[] args) {
        text();
        put();
        texts();
        faults();
        faultsAtTheEnd();
        faultRefused();
        country();
        countryAnew();
        aSmallerCountryBehindAGreaterOne();
        Due.end();
    }

    private static void text() {
        DoorSold x = new DoorSold();
        Due.due("text(0, 0)", x.text(0, 0), 0);
        Due.due("text(3, 60)", x.text(3, 60), 60);
        Due.due("count(9)", x.count(9), 2);
        for (int i = 0; i < 60; i++) Due.due("put(3, " + i + ", 32)", x.put(3, i, 32), 1032);
        x.put(3, 0, 65);
        Due.due("text(3, 2) anew", x.text(3, 2), 2);
        Due.due("text anew has blanks", x.put(3, 0, 66), 1032);
        Due.due("text(3, 61)", x.text(3, 61), DoorSold.BAD);
        Due.due("text(4, 1)", x.text(4, 1), DoorSold.BAD);
        Due.due("text(-1, 1)", x.text(-1, 1), DoorSold.BAD);
        Due.due("text(4, -1): BAD first", x.text(4, -1), DoorSold.BAD);
        Due.finds(x, "text(3, -1)", () -> x.text(3, -1), SIZE);
        Due.due("a refused text() changes nothing", x.put(3, 0, 66), 1066);
    }

    private static void put() {
        DoorSold x = new DoorSold();
        x.text(1, 2);
        Due.due("put(1, 0, 127)", x.put(1, 0, 127), 1032);
        Due.due("put(1, 0, 128)", x.put(1, 0, 128), 1127);
        Due.due("put(1, 0, 255): 128 was cut to -128", x.put(1, 0, 255), 872);
        Due.due("put(1, 0, 256): 255 was cut to -1", x.put(1, 0, 256), 999);
        Due.due("put(1, 0, -129): 256 was cut to 0", x.put(1, 0, -129), 1000);
        Due.due("put(1, 0, MIN): -129 was cut to 127", x.put(1, 0, Integer.MIN_VALUE), 1127);
        Due.due("put(1, 0, 1): MIN was cut to 0", x.put(1, 0, 1), 1000);
        Due.due("put(4, 0, 1)", x.put(4, 0, 1), DoorSold.BAD);
        Due.due("put(-1, 0, 1)", x.put(-1, 0, 1), DoorSold.BAD);
        Due.finds(x, "put(0, 9, 1)", () -> x.put(0, 9, 1), NOTHING);
        Due.finds(x, "put(1, 2, 1)", () -> x.put(1, 2, 1), BEYOND);
        Due.finds(x, "put(1, -1, 1)", () -> x.put(1, -1, 1), BEYOND);
        Due.finds(x, "put(1, MAX, 1)", () -> x.put(1, Integer.MAX_VALUE, 1), BEYOND);
    }

    private static void dueFault(String signs, int want) {
        DoorSold x = new DoorSold();
        Due.write(x, 2, signs);
        Due.due("fault of '" + signs + "'", x.fault(2), want);
        Due.due("country of '" + signs + "'", x.country(2) == DoorSold.STATE ? 1 : 0, want == DoorSold.NONE ? 0 : 1);
    }

    private static void texts() {
        dueFault("n200d009", DoorSold.NONE);
        dueFault("   n799   d669   u005b165k230s341c452   ", DoorSold.NONE);
        dueFault("n200d000d000d000d000d000d000", DoorSold.NONE);
        dueFault("n200d000d000d000d000d000d000   ", DoorSold.NONE);
    }

    private static void faults() {
        dueFault("", 0);
        dueFault("     ", 5);
        dueFault("  x", 2);
        dueFault("d009", 0);
        dueFault("N200d009", 0);
        dueFault("n", 1);
        dueFault("n ", 1);
        dueFault("n1", 1);
        dueFault("n8", 1);
        dueFault("n2", 2);
        dueFault("n2x", 2);
        dueFault("n2 0", 2);
        dueFault("n20", 3);
        dueFault("n20:", 3);
        dueFault("n20/", 3);
        dueFault("n200", 4);
        dueFault("n200   ", 7);
        dueFault("n200x", 4);
        dueFault("n200 n200", 5);
        dueFault("n2009", 4);
        dueFault("n200d", 5);
        dueFault("n200d ", 5);
        dueFault("n200d2", 5);
        dueFault("n200d1", 6);
        dueFault("n200d12", 6);
        dueFault("n200d1 1", 6);
        dueFault("n700d67", 6);
        dueFault("n700d7", 5);
        dueFault("n200d11", 7);
        dueFault("n200d11 ", 7);
        dueFault("n200d11x", 7);
        dueFault("n200d119x", 8);
        dueFault("n200d1199", 8);
        dueFault("n200d119 D119", 9);
        dueFault("n200d000d000d000d000d000d000d000", 28);
        dueFault("n200d000d000d000d000d000d000  d", 30);
        dueFault("n200d000d000d000d000d000d000x", 28);
        dueFault("n2:0d009", 2);
        dueFault("n20 d009", 3);
        dueFault("n20d009", 3);
        dueFault("n200009", 4);
        dueFault("n200 009", 5);
        dueFault("n200d00:", 7);
        dueFault("n200d00/", 7);
        dueFault("n200\td000", 4);
        dueFault("n200" + (char) 228 + "000", 4);
    }

    /** What stood behind its end before is no part of a text, and a text of the greatest size ends, too. */
    private static void faultsAtTheEnd() {
        String whole = "n200d019";
        DoorSold x = new DoorSold();
        for (int n = whole.length(); n >= 0; n--) {
            Due.write(x, 0, whole + "   ");
            Due.write(x, 0, whole.substring(0, n));
            Due.due("fault of its first " + n, x.fault(0), n == whole.length() ? DoorSold.NONE : n);
            String late = " ".repeat(60 - n) + whole.substring(0, n);
            dueFault(late, n == whole.length() ? DoorSold.NONE : 60);
        }
        dueFault("n200" + " ".repeat(56), 60);
    }

    private static void faultRefused() {
        DoorSold x = new DoorSold();
        Due.due("fault(4)", x.fault(4), DoorSold.BAD);
        Due.due("fault(-1)", x.fault(-1), DoorSold.BAD);
        Due.finds(x, "fault(3)", () -> x.fault(3), NOTHING);
        Due.due("country(4)", x.country(4), DoorSold.BAD);
        Due.due("country(-1)", x.country(-1), DoorSold.BAD);
        Due.finds(x, "country(3)", () -> x.country(3), NOTHING);
    }

    private static void country() {
        DoorSold x = new DoorSold();
        Due.write(x, 3, " n507 u421 c033 ");
        Due.due("fault(3)", x.fault(3), DoorSold.NONE);
        Due.due("a fault() looks only", x.count(0), 0);
        Due.due("country(3)", x.country(3), 2);
        int[] want = {2, 5, 0, 0, 7, 0, 0, 2, 0, 1, 0};
        for (int what = 0; what < want.length; what++) Due.due("count(" + what + ")", x.count(what), want[what]);
        Due.told(x, "door(0, 0)", x.door(0, 0), 1, 1);
        Due.told(x, "door(1, 2)", x.door(1, 2), 1, 3);
    }

    private static void countryAnew() {
        DoorSold x = Due.in("n699 d019 d120");
        x.buy(0);
        x.go(0);
        x.set(0);
        x.keep(0);
        x.keep(2);
        long before = x.digest();
        Due.write(x, 1, "n3");
        x.text(1, 0);
        long withText = x.digest();
        Due.due("country of a FAULT", x.country(1), DoorSold.STATE);
        Due.due("a refused country() changes nothing", x.digest(), withText);
        Due.due("kept COUNTRIES stay", x.count(10), 2);
        Due.due("another digest with a text more", before == withText ? 1 : 0, 0);
        Due.due("country anew", x.country(0), 2);
        Due.due("PLACE 0", x.count(2), 0);
        Due.due("HOUR 0", x.count(3), 0);
        Due.due("the PURSE", x.count(4), 99);
        Due.due("no DEEDS", x.count(5), 0);
        Due.due("nothing BOUGHT", x.count(6), 0);
        Due.due("kept COUNTRIES go", x.count(10), 0);
        Due.told(x, "AT as in the text", x.door(0, 1), 1, 0);
        Due.finds(x, "on(0)", () -> x.on(0), NOTHING);
        Due.due("nothing to undo", x.undo(0), 0);
    }

    /** What the greater one had is gone: all is answered as by an object that never was there. */
    private static void aSmallerCountryBehindAGreaterOne() {
        DoorSold x = Due.owning("n799 d010 d021 d036 d151 d320 d231", 6);
        x.road();
        Due.enter(x, "n401 d119");
        DoorSold y = Due.in("n401 d119");
        Due.due("digest()", x.digest(), y.digest());
        Due.due("faces()", x.faces(), y.faces());
        Due.due("where(9)", x.where(9), y.where(9));
        for (int p = 0; p < 4; p++) {
            Due.due("round(" + p + ")", x.round(p), y.round(p));
            Due.due("cheapest(" + p + ", 4)", x.cheapest(p, 4), y.cheapest(p, 4));
            for (int c = 0; c < 4; c++) Due.due("chase(" + p + ", " + c + ", 6)", x.chase(p, c, 6), y.chase(p, c, 6));
        }
        Due.due("door(1, 0)", x.door(1, 0), DoorSold.BAD);
        Due.due("chase(0, 1, 6) round the ring", x.chase(0, 1, 6), DoorSold.NONE);
    }
}
