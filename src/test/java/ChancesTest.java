/** Promises 34 to 36: odds, mid, lots. */
public final class ChancesTest {
    public static void main(String[] args) {
        odds();
        oddsInSixDoors();
        oddsRefused();
        mid();
        midRefused();
        lots();
        lotsThroughDoors();
        lotsAreDeeds();
        lotsRefused();
        Due.end();
    }

    private static void dueFraction(DoorSold x, String call, int got, long upper, long lower) {
        Due.due(call, got, 1);
        Due.due(call + ", upper()", x.upper(), upper);
        Due.due(call + ", lower()", x.lower(), lower);
    }

    private static void odds() {
        DoorSold x = Due.owning("n700 d050 d050", 1);
        dueFraction(x, "odds(5, 1, 0)", x.odds(5, 1, 0), 1, 1);
        dueFraction(x, "odds(5, 1, 12)", x.odds(5, 1, 12), 0, 1);
        dueFraction(x, "odds(5, 1, 3)", x.odds(5, 1, 3), 3, 4);
        dueFraction(x, "odds(5, 0, 3)", x.odds(5, 0, 3), 0, 1);
        dueFraction(x, "odds(5, 14, 5)", x.odds(5, 14, 5), 7, 12);
        dueFraction(x, "odds(5, 15, 5) by roads", x.odds(5, 15, 5), 1, 1);
        dueFraction(x, "odds(0, 0, 12)", x.odds(0, 0, 12), 1, 1);
        x.buy(1);
        dueFraction(x, "odds(5, 1, 4) by two", x.odds(5, 1, 4), 8, 9);
        dueFraction(x, "odds(5, 30, 12)", x.odds(5, 30, 12), 1, 1);
        x = Due.owning("n700 d030 d350", 2);
        dueFraction(x, "odds(5, 2, 4) by one behind the other", x.odds(5, 2, 4), 4, 9);
        dueFraction(x, "odds(5, 7, 4) by the first one", x.odds(5, 7, 4), 2, 3);
        dueFraction(x, "odds(5, 10, 4) by either one", x.odds(5, 10, 4), 8, 9);
        Due.due("none is bricked up by it", x.count(6), 3);
        x = Due.in("n700 d000 d050");
        x.buy(1);
        dueFraction(x, "odds(5, 1, 4), the last one BOUGHT alone", x.odds(5, 1, 4), 2, 3);
        x = Due.owning("n709 k050", 1);
        x.stay();
        dueFraction(x, "odds(5, 2, 6) of a BRICKED one in HOUR 1", x.odds(5, 2, 6), 0, 1);
        dueFraction(x, "odds(5, 3, 6) of a BRICKED one in HOUR 1", x.odds(5, 3, 6), 1, 2);
    }

    private static void oddsInSixDoors() {
        DoorSold x = Due.owning("n700 d050 d050 d050 d050 d050 d050", 6);
        dueFraction(x, "odds(5, 1, 1)", x.odds(5, 1, 1), 2985983, 2985984);
        dueFraction(x, "odds(5, 1, 11)", x.odds(5, 1, 11), 2985984 - 1771561, 2985984);
        dueFraction(x, "odds(5, 1, 6)", x.odds(5, 1, 6), 63, 64);
        dueFraction(x, "mid(5, 6)", x.mid(5, 6), 39, 32);
    }

    private static void oddsRefused() {
        DoorSold x = new DoorSold();
        Due.due("odds(0, 0, 0) without DOORS", x.odds(0, 0, 0), DoorSold.BAD);
        Due.enter(x, "n700d050");
        x.buy(0);
        x.odds(5, 1, 3);
        int[][] bad = {{7, 0, 0}, {-1, 0, 0}, {0, 31, 0}, {0, -1, 0}, {0, 0, 13}, {0, 0, -1}};
        for (int[] b : bad) {
            Due.due("odds" + java.util.Arrays.toString(b), x.odds(b[0], b[1], b[2]), DoorSold.BAD);
            Due.due("upper() stays", x.upper(), 3);
            Due.due("lower() stays", x.lower(), 4);
        }
    }

    private static void mid() {
        DoorSold x = Due.owning("n700 d050", 1);
        dueFraction(x, "mid(5, 0)", x.mid(5, 0), 1, 1);
        dueFraction(x, "mid(5, 12)", x.mid(5, 12), 15, 1);
        dueFraction(x, "mid(5, 6)", x.mid(5, 6), 8, 1);
        dueFraction(x, "mid(5, 3)", x.mid(5, 3), 9, 2);
        dueFraction(x, "mid(5, 1)", x.mid(5, 1), 13, 6);
        dueFraction(x, "mid(0, 5)", x.mid(0, 5), 0, 1);
        dueFraction(x, "mid(2, 5) by roads", x.mid(2, 5), 6, 1);
        x = Due.owning("n700 d030 d350", 2);
        // 4 of 9 both: 2, 2 the first: 7, 2 the second: 10, 1 none: 15; together 57
        dueFraction(x, "mid(5, 4)", x.mid(5, 4), 19, 3);
        x = Due.in("n700 d050");
        dueFraction(x, "mid(5, 6), none BOUGHT", x.mid(5, 6), 15, 1);
        x = Due.in("n700 d000 d050");
        x.buy(1);
        dueFraction(x, "mid(5, 6), the last one BOUGHT alone", x.mid(5, 6), 8, 1);
    }

    private static void midRefused() {
        DoorSold x = new DoorSold();
        Due.due("mid(0, 0) without DOORS", x.mid(0, 0), DoorSold.BAD);
        Due.enter(x, "n700d050");
        x.buy(0);
        x.mid(5, 3);
        int[][] bad = {{7, 0}, {-1, 0}, {0, 13}, {0, -1}};
        for (int[] b : bad) {
            Due.due("mid" + java.util.Arrays.toString(b), x.mid(b[0], b[1]), DoorSold.BAD);
            Due.due("upper() stays", x.upper(), 9);
            Due.due("lower() stays", x.lower(), 2);
        }
    }

    /** The numbers of seed 1 are 48271, 182605794, 1291394886, 1914720637, 2078669041: modulo 3 they are 1, 0, 0, 1, 1. */
    private static void lots() {
        int[] places = {0, 1, 2, 2, 2};
        int[] hours = {1, 4, 7, 8, 9};
        for (int n = 1; n <= 5; n++) {
            DoorSold x = Due.in("n300 d000 d000");
            Due.due("lots(" + n + ", 1)", x.lots(n, 1), places[n - 1]);
            Due.due("HOUR", x.count(3), hours[n - 1]);
            Due.due("DEEDS", x.count(5), n);
        }
        DoorSold x = Due.in("n300 d000");
        Due.due("lots(1, 2147483646): 2147435376", x.lots(1, 2147483646), 1);
    }

    /** By 8 and cut, the first number of seed 1 is 6033, the second one 22825724. */
    private static void lotsThroughDoors() {
        DoorSold x = Due.owning("n709 d000 d030", 2);
        Due.due("lots(1, 1) through DOOR 1", x.lots(1, 1), 3);
        Due.due("HOUR", x.count(3), 1);
        x = Due.owning("n709 d340 d030", 2);
        Due.due("lots(2, 1) through 1, 0", x.lots(2, 1), 4);
        Due.due("HOUR", x.count(3), 2);
        x = Due.owning("n709 d000 d130", 2);
        Due.due("lots(1, 1), IN elsewhere", x.lots(1, 1), 0);
        x = Due.owning("n709 d000 k030", 2);
        x.stay();
        Due.due("lots(1, 1), not OPEN", x.lots(1, 1), 0);
        x = Due.owning("n709 d000 d030", 1);
        Due.due("lots(1, 1), not BOUGHT", x.lots(1, 1), 0);
        x = Due.owning("n709 d030", 1);
        Due.due("lots(1, 1) of one", x.lots(1, 1), 3);
        x = Due.owning("n709 d030 d000 d000 d040", 4);
        Due.due("lots(1, 1) of four: DOOR 1", x.lots(1, 1), 0);
        Due.due("HOUR", x.count(3), 1);
    }

    private static void lotsAreDeeds() {
        DoorSold x = Due.owning("n709 d340 d030", 2);
        long before = x.digest();
        x.lots(7, 1);
        Due.due("DEEDS", x.count(5), 9);
        Due.due("undo(2)", x.undo(2), 7);
        Due.due("undone", x.digest(), before);
        x.lots(3, 1);
        Due.due("undo(3)", x.undo(3), 2);
        Due.due("the PLACE behind the first lot", x.count(2), 3);
    }

    private static void lotsRefused() {
        DoorSold x = new DoorSold();
        Due.due("lots(1, 1) without DOORS", x.lots(1, 1), DoorSold.STATE);
        int[][] bad = {{0, 1}, {21, 1}, {-1, 1}, {1, 0}, {1, -1}, {1, 2147483647}, {1, Integer.MIN_VALUE}};
        for (int[] b : bad) Due.due("lots" + java.util.Arrays.toString(b), x.lots(b[0], b[1]), DoorSold.BAD);
        Due.enter(x, "n300d000");
        for (int[] b : bad) Due.due("lots" + java.util.Arrays.toString(b), x.lots(b[0], b[1]), DoorSold.BAD);
        x.stay();
        x.lots(20, 7);
        long before = x.digest();
        Due.due("lots(20, 7) with 21 DEEDS", x.lots(20, 7), DoorSold.FULL);
        Due.due("a refused lots() changes nothing", x.digest(), before);
        Due.due("lots(19, 7) with 21 DEEDS", x.lots(19, 7) >= 0 ? 1 : 0, 1);
        Due.due("DEEDS", x.count(5), 40);
        Due.due("lots(1, 7) with 40 DEEDS", x.lots(1, 7), DoorSold.FULL);
        Due.due("lots(0, 7) with 40 DEEDS", x.lots(0, 7), DoorSold.BAD);
    }
}
