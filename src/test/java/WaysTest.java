/** Promises 23 to 25: where, soonest, way. */
public final class WaysTest {
    public static void main(String[] args) {
        whereByRoads();
        whereByDoors();
        whereRefused();
        soonest();
        soonestRefused();
        way();
        wayIsTheFirstByNumbers();
        wayRefused();
        looksOnly();
        Due.end();
    }

    private static void whereByRoads() {
        DoorSold x = Due.in(Due.ALL_KINDS);
        for (int n = 0; n <= 30; n++) {
            int roads = Math.min(5, n / 3);
            Due.due("where(" + n + ") by roads", x.where(n), (1 << roads + 1) - 1);
        }
        x.road();
        x.road();
        x.road();
        x.road();
        Due.due("where(5) from PLACE 4", x.where(5), 16 + 32);
        Due.due("where(6) round the ring", x.where(6), 16 + 32 + 1);
    }

    private static void whereByDoors() {
        DoorSold x = Due.owning("n700 u050", 1);
        Due.due("where(1) by a DUTCH one", x.where(1), 1);
        Due.due("where(2) by a DUTCH one", x.where(2), 1 + 32);
        x.stay();
        Due.due("where(2) in an odd HOUR", x.where(2), 1);
        Due.due("where(3) in an odd HOUR", x.where(3), 1 + 2 + 32);
        x = Due.owning("n701 k050", 1);
        Due.due("where(1) by a BRICKED one", x.where(1), 1 + 32);
        x.stay();
        Due.due("where(2) in HOUR 1", x.where(2), 1);
        Due.due("where(3) in HOUR 1", x.where(3), 1 + 2 + 32);
        x = Due.owning("n700 c250", 1);
        Due.due("where(6) by a CART", x.where(6), 1 + 2 + 4);
        Due.due("where(7) by a CART met in PLACE 1", x.where(7), 1 + 2 + 4 + 32);
        x = Due.owning("n703 s500", 1);
        Due.due("where(2) by a STUDY", x.where(2), 1);
        Due.due("where(3) by a STUDY", x.where(3), 1 + 2 + 32);
        x = Due.in("n700 d050");
        Due.due("where(1) by a DOOR not BOUGHT", x.where(1), 1);
    }

    private static void whereRefused() {
        DoorSold x = new DoorSold();
        Due.due("where(0) without DOORS", x.where(0), DoorSold.STATE);
        Due.due("where(31) without DOORS", x.where(31), DoorSold.BAD);
        Due.enter(x, Due.ALL_KINDS);
        Due.due("where(31)", x.where(31), DoorSold.BAD);
        Due.due("where(-1)", x.where(-1), DoorSold.BAD);
    }

    private static void soonest() {
        DoorSold x = Due.in("n700d060");
        for (int p = 0; p < 7; p++) Due.told(x, "soonest(" + p + ") by roads", x.soonest(p), 3 * p, p + 1);
        x.buy(0);
        Due.told(x, "soonest(6) by a DOOR", x.soonest(6), 1, 2);
        Due.told(x, "soonest(5) by a DOOR", x.soonest(5), 15, 7);
        Due.told(x, "soonest(1) by a DOOR", x.soonest(1), 3, 3);
        x = Due.owning("n700 c250", 1);
        Due.told(x, "soonest(5) by a CART met in PLACE 1", x.soonest(5), 7, 4);
        x.road();
        Due.told(x, "soonest(5) from HOUR 3", x.soonest(5), 4, 3);
        Due.told(x, "soonest(0) from PLACE 1", x.soonest(0), 10, 7);
        x = Due.owning("n700 u030 d350", 2);
        Due.told(x, "soonest(5) by two", x.soonest(5), 3, 4);
    }

    private static void soonestRefused() {
        DoorSold x = new DoorSold();
        Due.due("soonest(0) without DOORS", x.soonest(0), DoorSold.BAD);
        Due.enter(x, "n300d010");
        x.soonest(1);
        Due.told(x, "soonest(3)", x.soonest(3), DoorSold.BAD, 2);
        Due.told(x, "soonest(-1)", x.soonest(-1), DoorSold.BAD, 2);
    }

    private static void dueWay(DoorSold x, int place, int... steps) {
        Due.lay(x, 4, 9, 9, 9);
        Due.due("way(" + place + ", 4)", x.way(place, 4), steps.length);
        Due.dueRow(x, "way(" + place + ", 4)", 4, steps);
    }

    private static void way() {
        DoorSold x = Due.in("n700d060");
        dueWay(x, 0);
        dueWay(x, 1, 6);
        dueWay(x, 6, 6, 6, 6, 6, 6, 6);
        x.buy(0);
        dueWay(x, 6, 0);
        dueWay(x, 1, 6);
        x = Due.owning("n700 c250", 1);
        dueWay(x, 5, 6, 7, 7, 7, 0);
        x = Due.owning("n700 u030 d350", 2);
        dueWay(x, 5, 0, 1);
        x.stay();
        dueWay(x, 5, 7, 0, 1);
    }

    private static void wayIsTheFirstByNumbers() {
        dueWay(Due.owning("n700 d050 d050", 2), 5, 0);
        dueWay(Due.owning("n700 d140 d340 d030 d010", 4), 4, 2, 1);
        DoorSold x = Due.owning("n700 d000 u050", 2);
        dueWay(x, 5, 1);
        x.stay();
        dueWay(x, 5, 0, 1);
        x.sell(0);
        dueWay(x, 5, 7, 1);
        dueWay(Due.owning("n700 d100 d010 d150", 3), 5, 1, 2);
        dueWay(Due.owning("n709 s300 d140 d340", 3), 4, 0, 2);
        dueWay(Due.owning("n709 d140 d340", 2), 4, 6, 0);
    }

    private static void wayRefused() {
        DoorSold x = new DoorSold();
        Due.due("way(0, 0) without DOORS", x.way(0, 0), DoorSold.BAD);
        Due.enter(x, "n300d010");
        Due.due("way(3, 0)", x.way(3, 0), DoorSold.BAD);
        Due.due("way(-1, 0)", x.way(-1, 0), DoorSold.BAD);
        Due.due("way(0, 6)", x.way(0, 6), DoorSold.BAD);
        Due.due("way(0, -1)", x.way(0, -1), DoorSold.BAD);
        Due.due("no ROW yet", x.count(8), 0);
        Due.due("way(0, 5)", x.way(0, 5), 0);
        Due.due("a ROW of no STEPS", x.count(8), 1);
    }

    private static void looksOnly() {
        DoorSold x = Due.owning(Due.ALL_KINDS, 6);
        x.stay();
        long before = x.digest();
        x.where(30);
        x.soonest(5);
        Due.due("where(), soonest() change nothing", x.digest(), before);
        int asked = x.asked();
        x.way(3, 0);
        Due.due("way() does not tell by asked()", x.asked(), asked);
        Due.due("way() goes nowhere", x.count(2), 0);
        Due.due("way() takes no HOUR", x.count(3), 1);
    }
}
