/** Promises 26 to 28: cheapest, shut, worth. */
public final class BuyingTest {
    public static void main(String[] args) {
        cheapest();
        cheapestOfAsCheapOnes();
        cheapestWithSomeBought();
        cheapestRefused();
        shut();
        shutRefused();
        worth();
        worthRefused();
        Due.end();
    }

    private static void cheapest() {
        DoorSold x = Due.in("n700 d059 u058 b502 s500 k039 d355");
        Due.told(x, "cheapest(5, 1)", x.cheapest(5, 1), 1, 4);
        Due.told(x, "cheapest(5, 0): none, asked() stays", x.cheapest(5, 0), DoorSold.NONE, 4);
        Due.told(x, "cheapest(5, 15) by roads", x.cheapest(5, 15), 0, 0);
        Due.told(x, "cheapest(5, 14)", x.cheapest(5, 14), 1, 4);
        Due.told(x, "cheapest(0, 0)", x.cheapest(0, 0), 0, 0);
        Due.told(x, "cheapest(3, 8)", x.cheapest(3, 8), 1, 16);
        Due.told(x, "cheapest(6, 4)", x.cheapest(6, 4), 1, 4);
        Due.told(x, "cheapest(6, 3)", x.cheapest(6, 3), DoorSold.NONE, 4);
        x = Due.in("n700 d039 d359");
        Due.told(x, "cheapest(5, 2) by two", x.cheapest(5, 2), 18, 3);
        Due.told(x, "cheapest(5, 7) by one and roads", x.cheapest(5, 7), 9, 1);
        Due.told(x, "cheapest(5, 10) by roads and one", x.cheapest(5, 10), 9, 1);
        Due.due("nothing is BOUGHT by it", x.count(6), 0);
        Due.due("no DEEDS by it", x.count(5), 0);
    }

    private static void cheapestOfAsCheapOnes() {
        DoorSold x = Due.in("n700 d054 d054");
        Due.told(x, "cheapest(5, 1) of two", x.cheapest(5, 1), 4, 1);
        x = Due.in("n700 d032 d352 d054");
        Due.told(x, "cheapest(5, 2): 0 and 1 before 2", x.cheapest(5, 2), 4, 3);
        x = Due.in("n700 d054 d032 d352");
        Due.told(x, "cheapest(5, 2): 0 before 1 and 2", x.cheapest(5, 2), 4, 1);
        x = Due.in("n700 d000 d050");
        Due.told(x, "cheapest(5, 1) for nothing", x.cheapest(5, 1), 0, 2);
        x = Due.in("n700 d059 d035 d354");
        Due.told(x, "cheapest(5, 2): as cheap", x.cheapest(5, 2), 9, 1);
        x = Due.in("n700 d059 d035 d353");
        Due.told(x, "cheapest(5, 2): cheaper by a greater number", x.cheapest(5, 2), 8, 6);
    }

    private static void cheapestWithSomeBought() {
        DoorSold x = Due.in("n709 d039 d358 d057");
        x.buy(0);
        Due.told(x, "cheapest(3, 1), BOUGHT already", x.cheapest(3, 1), 0, 0);
        Due.told(x, "cheapest(5, 2)", x.cheapest(5, 2), 7, 4);
        x.go(0);
        Due.told(x, "cheapest(5, 1) from PLACE 3", x.cheapest(5, 1), 8, 2);
        x = Due.in("n700 u054");
        x.stay();
        Due.told(x, "cheapest(5, 2) in an odd HOUR", x.cheapest(5, 2), DoorSold.NONE, 0);
        Due.told(x, "cheapest(5, 3) in an odd HOUR", x.cheapest(5, 3), 4, 1);
    }

    private static void cheapestRefused() {
        DoorSold x = new DoorSold();
        Due.due("cheapest(0, 0) without DOORS", x.cheapest(0, 0), DoorSold.BAD);
        Due.enter(x, "n300d029");
        x.cheapest(2, 1);
        Due.told(x, "cheapest(3, 0)", x.cheapest(3, 0), DoorSold.BAD, 1);
        Due.told(x, "cheapest(-1, 0)", x.cheapest(-1, 0), DoorSold.BAD, 1);
        Due.told(x, "cheapest(0, 31)", x.cheapest(0, 31), DoorSold.BAD, 1);
        Due.told(x, "cheapest(0, -1)", x.cheapest(0, -1), DoorSold.BAD, 1);
        Due.told(x, "cheapest(0, 30)", x.cheapest(0, 30), 0, 0);
    }

    private static void shut() {
        DoorSold x = Due.owning("n700 d050 d030 d350 d050", 3);
        Due.told(x, "shut(5, 0)", x.shut(5, 0), 0, 0);
        Due.told(x, "shut(5, 1): 3 is not BOUGHT", x.shut(5, 1), 1, 1);
        Due.told(x, "shut(5, 2)", x.shut(5, 2), 2, 3);
        Due.told(x, "shut(5, 6): the road from 3 takes 6", x.shut(5, 6), 2, 3);
        Due.told(x, "shut(5, 14): the road to 3 takes 9", x.shut(5, 14), 3, 7);
        Due.told(x, "shut(5, 15): the roads, asked() stays", x.shut(5, 15), DoorSold.NONE, 7);
        Due.told(x, "shut(0, 0)", x.shut(0, 0), DoorSold.NONE, 7);
        Due.told(x, "shut(3, 8)", x.shut(3, 8), 1, 2);
        x = Due.owning("n700 d350 d030", 2);
        Due.told(x, "shut(5, 2): either one, 0 first", x.shut(5, 2), 1, 1);
        x = Due.owning("n700 d050 d050 d050 d050 d050 d050", 6);
        Due.told(x, "shut(5, 14): all", x.shut(5, 14), 6, 63);
        Due.due("none is shut by it", x.count(6), 63);
        x = Due.owning("n700 d000 d050", 2);
        Due.told(x, "shut(5, 1)", x.shut(5, 1), 1, 2);
        x = Due.owning("n700 d030 d030 d000 d350", 4);
        Due.told(x, "shut(5, 2): one by a greater number", x.shut(5, 2), 1, 8);
        x = Due.in("n700 d050 d000 d050");
        x.buy(2);
        Due.told(x, "shut(5, 1), the last one BOUGHT alone", x.shut(5, 1), 1, 4);
    }

    private static void shutRefused() {
        DoorSold x = new DoorSold();
        Due.due("shut(0, 0) without DOORS", x.shut(0, 0), DoorSold.BAD);
        Due.enter(x, "n300d020");
        x.buy(0);
        x.shut(2, 1);
        Due.told(x, "shut(3, 0)", x.shut(3, 0), DoorSold.BAD, 1);
        Due.told(x, "shut(-1, 0)", x.shut(-1, 0), DoorSold.BAD, 1);
        Due.told(x, "shut(0, 31)", x.shut(0, 31), DoorSold.BAD, 1);
        Due.told(x, "shut(0, -1)", x.shut(0, -1), DoorSold.BAD, 1);
        Due.told(x, "shut(0, 30)", x.shut(0, 30), DoorSold.NONE, 1);
    }

    private static void worth() {
        DoorSold x = Due.in("n700 d050 d030 s600");
        Due.due("worth(0, 5)", x.worth(0, 5), 14);
        Due.due("worth(0, 6)", x.worth(0, 6), 14);
        Due.due("worth(1, 5)", x.worth(1, 5), 8);
        Due.due("worth(1, 2)", x.worth(1, 2), 0);
        Due.due("worth(2, 6)", x.worth(2, 6), 15);
        Due.due("worth(0, 0)", x.worth(0, 0), 0);
        x.buy(0);
        Due.due("worth(0, 5), BOUGHT", x.worth(0, 5), 14);
        Due.due("worth(1, 5), another one BOUGHT", x.worth(1, 5), 0);
        Due.due("worth(2, 6), another one BOUGHT", x.worth(2, 6), 1);
        x.buy(1);
        Due.due("worth(0, 5), both BOUGHT", x.worth(0, 5), 6);
        Due.due("worth(1, 5), both BOUGHT", x.worth(1, 5), 0);
        Due.due("it is BOUGHT still", x.count(6), 3);
    }

    private static void worthRefused() {
        DoorSold x = new DoorSold();
        Due.due("worth(0, 0) without DOORS", x.worth(0, 0), DoorSold.BAD);
        Due.enter(x, "n300d020");
        Due.due("worth(1, 0)", x.worth(1, 0), DoorSold.BAD);
        Due.due("worth(-1, 0)", x.worth(-1, 0), DoorSold.BAD);
        Due.due("worth(0, 3)", x.worth(0, 3), DoorSold.BAD);
        Due.due("worth(0, -1)", x.worth(0, -1), DoorSold.BAD);
    }
}
