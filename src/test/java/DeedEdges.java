import java.util.function.Supplier;

/** Boundary cases of the promises 14 to 22: road, stay, go, buy, sell, set, undo, keep, on. */
final class DeedEdges {
    /** Of these 0 can be gone through from the first PLACE, 1 can be set up there, 2 can't be paid behind both. */
    private static final String SMALL = "n308 d014 d124 d009 d000";

    private DeedEdges() {
    }

    static void all() {
        road();
        stay();
        go();
        goNotNow();
        buy();
        sell();
        set();
        setNotNow();
        undo();
        keep();
        on();
    }

    /** With 40 DEEDS, 0 and 1 BOUGHT. */
    private static DoorSold full() {
        return Edge.withDeeds(40, SMALL, 2);
    }

    /** With one DEED less. */
    private static DoorSold nearlyFull() {
        return Edge.withDeeds(39, SMALL, 2);
    }

    private static Supplier<DoorSold> in(String country, int bought, int waiting) {
        return () -> Edge.withDeeds(bought + waiting, country, bought);
    }

    /** The call is still done as the last of 40 DEEDS, and refused behind it. */
    private static void dueUntilFull(long want, String name, int... args) {
        DoorSold x = nearlyFull();
        Edge.due(x, want, name, args);
        Edge.due(x, 40, "count", 5);
        Edge.refuses(DeedEdges::full, Edge.FULL, name, args);
    }

    private static void road() {
        Edge.of(14, "The ROAD: the PLACE then.");
        DoorSold x = Due.in("n200d000");
        Edge.due(x, 1, "road");
        Edge.due(x, 0, "road");
        Edge.due(x, 6, "count", 3);
        x = Due.in("n700d000");
        for (int p = 1; p <= 7; p++) Edge.due(x, p % 7, "road");
        Edge.of(14, "STATE; FULL: 40 DEEDS. (FULL last.)");
        Edge.refuses(DoorSold::new, Edge.STATE, "road");
        dueUntilFull(1, "road");
        x = Due.in("n700d000");
        for (int d = 1; d <= 40; d++) Edge.due(x, d % 7, "road");
        Edge.due(x, Edge.FULL, "road");
        Edge.due(x, 120, "count", 3);
    }

    private static void stay() {
        Edge.of(15, "WAITING: the HOUR then. STATE; FULL. (FULL last.)");
        Edge.refuses(DoorSold::new, Edge.STATE, "stay");
        dueUntilFull(38, "stay");
        DoorSold x = Due.in("n700d000");
        for (int h = 1; h <= 40; h++) Edge.due(x, h, "stay");
        Edge.due(x, Edge.FULL, "stay");
        Edge.due(x, 40, "count", 3);
        Edge.due(x, 0, "count", 2);
    }

    private static void go() {
        Edge.of(16, "BAD;");
        Edge.bounds(Edge::busy, 0, 0, 5, "go", 0);
        Edge.bounds(in("n200d000", 1, 0), 0, 0, 0, "go", 0);
        Edge.refuses(DoorSold::new, Edge.BAD, "go", 0);
        Edge.of(16, "FULL. (FULL last.)");
        dueUntilFull(1, "go", 0);
        Edge.refuses(DeedEdges::full, Edge.STATE, "go", 1);
        Edge.refuses(DeedEdges::full, Edge.STATE, "go", 2);
        Edge.refuses(DeedEdges::full, Edge.BAD, "go", 4);
        Edge.refuses(DeedEdges::full, Edge.BAD, "go", -1);
    }

    private static void goNotNow() {
        Edge.of(16, "STATE: it is not BOUGHT, not OPEN, or one goes IN elsewhere;");
        Edge.refuses(in("n300d010", 0, 0), Edge.STATE, "go", 0);
        Edge.due(in("n300d010", 1, 0).get(), 1, "go", 0);
        for (int h = 0; h <= 6; h++) {
            if (h % 2 != 0) Edge.refuses(in("n300u010", 1, h), Edge.STATE, "go", 0);
            else Edge.due(in("n300u010", 1, h).get(), 1, "go", 0);
            if (h % 3 != 0) Edge.refuses(in("n301k010", 1, h), Edge.STATE, "go", 0);
            else Edge.due(in("n301k010", 1, h).get(), 1, "go", 0);
            if (h % 6 != 0) Edge.refuses(in("n300c010", 1, h), Edge.STATE, "go", 0);
            else Edge.due(in("n300c010", 1, h).get(), 1, "go", 0);
        }
        Edge.refuses(in("n300d100", 1, 0), Edge.STATE, "go", 0);
        Edge.refuses(in("n300b010", 1, 0), Edge.STATE, "go", 0);
        Edge.due(in("n300b100", 1, 0).get(), 1, "go", 0);
        Edge.refuses(in("n303s010", 1, 0), Edge.STATE, "go", 0);
        Edge.due(in("n303s100", 1, 0).get(), 1, "go", 0);
    }

    private static void buy() {
        Edge.of(17, "BAD;");
        Edge.bounds(Edge::busy, 0, 0, 5, "buy", 0);
        Edge.bounds(in("n200d000", 0, 0), 0, 0, 0, "buy", 0);
        Edge.refuses(DoorSold::new, Edge.BAD, "buy", 0);
        Edge.of(17, "STATE: it is BOUGHT;");
        Edge.refuses(Edge::busy, Edge.STATE, "buy", 0);
        Edge.refuses(in("n209d009", 1, 0), Edge.STATE, "buy", 0);
        DoorSold x = in("n209d009", 1, 0).get();
        x.sell(0);
        Edge.due(x, Edge.SPENT, "buy", 0);
        Edge.of(17, "SPENT: it COSTS more than the PURSE;");
        for (int price = 0; price <= 9; price++) {
            Edge.due(Due.in("n20" + price + "d00" + price), 0, "buy", 0);
            if (price > 0) Edge.refuses(in("n20" + (price - 1) + "d00" + price, 0, 0), Edge.SPENT, "buy", 0);
        }
        Edge.refuses(in("n200k000", 0, 0), Edge.SPENT, "buy", 0);
        Edge.due(Due.in("n201k009"), 0, "buy", 0);
        Edge.due(Due.in("n200b001"), 0, "buy", 0);
        Edge.refuses(in("n203b008", 0, 0), Edge.SPENT, "buy", 0);
        Edge.due(Due.in("n204b009"), 0, "buy", 0);
        Edge.refuses(in("n202s000", 0, 0), Edge.SPENT, "buy", 0);
        Edge.due(Due.in("n203s001"), 0, "buy", 0);
        Edge.due(Due.in("n299d009"), 90, "buy", 0);
        Edge.of(17, "FULL. (FULL last.)");
        dueUntilFull(0, "buy", 3);
        Edge.refuses(DeedEdges::full, Edge.STATE, "buy", 0);
        Edge.refuses(DeedEdges::full, Edge.SPENT, "buy", 2);
        Edge.refuses(DeedEdges::full, Edge.BAD, "buy", 4);
    }

    private static void sell() {
        Edge.of(18, "One is sold: the PURSE then.");
        for (int price = 0; price <= 9; price++) {
            Edge.due(Due.owning("n209d00" + price, 1), 9 - price + price / 2, "sell", 0);
        }
        Edge.due(Due.owning("n299d009", 1), 94, "sell", 0);
        DoorSold x = Due.owning("n799 d000 d000 d000 d000 d006 d009", 6);
        Edge.due(x, 88, "sell", 5);
        Edge.due(x, 31, "count", 6);
        Edge.due(x, 91, "sell", 4);
        Edge.due(x, 15, "count", 6);
        Edge.of(18, "BAD;");
        Edge.bounds(Edge::busy, 0, 0, 5, "sell", 0);
        Edge.bounds(in("n200d000", 1, 0), 0, 0, 0, "sell", 0);
        Edge.refuses(DoorSold::new, Edge.BAD, "sell", 0);
        Edge.of(18, "STATE: it is not BOUGHT;");
        Edge.refuses(Edge::busy, Edge.STATE, "sell", 2);
        Edge.refuses(DeedEdges::sold, Edge.STATE, "sell", 0);
        Edge.of(18, "FULL. (FULL last.)");
        dueUntilFull(2, "sell", 0);
        Edge.refuses(DeedEdges::full, Edge.STATE, "sell", 2);
        Edge.refuses(DeedEdges::full, Edge.BAD, "sell", 4);
    }

    private static DoorSold sold() {
        DoorSold x = Due.owning("n209d009", 1);
        x.sell(0);
        return x;
    }

    private static void set() {
        Edge.of(19, "of a CART AT as due by the HOUR): AT then.");
        int[] at = {0, 3, 2, 1, 0, 3};
        for (int h = 0; h < at.length; h++) {
            DoorSold x = in("n400c" + (at[h] + 1) % 4 + "20", 1, h).get();
            Edge.due(x, at[h], "set", 0);
            Edge.told(x, 1, 0, "door", 0, 4);
            Edge.told(x, 1, 2, "door", 0, 2);
        }
        Edge.of(19, "(of a BACK one where it LEADS becomes that PLACE, else AT;");
        for (String kind : new String[] {"b", "s"}) {
            DoorSold x = in("n409" + kind + "230", 1, 5).get();
            Edge.due(x, 2, "set", 0);
            Edge.told(x, 1, 0, "door", 0, 2);
            Edge.told(x, 1, 0, "door", 0, 4);
        }
        for (String kind : new String[] {"d", "u", "k"}) {
            DoorSold x = in("n409" + kind + "230", 1, 5).get();
            Edge.due(x, 0, "set", 0);
            Edge.told(x, 1, 3, "door", 0, 2);
            Edge.told(x, 1, 0, "door", 0, 4);
        }
    }

    private static void setNotNow() {
        Edge.of(19, "BAD;");
        Edge.bounds(Edge::busy, 0, 0, 5, "set", 0);
        Edge.bounds(in("n200d100", 1, 0), 0, 0, 0, "set", 0);
        Edge.refuses(DoorSold::new, Edge.BAD, "set", 0);
        Edge.of(19, "STATE: it is not BOUGHT, or it is so;");
        Edge.refuses(in("n300d120", 0, 0), Edge.STATE, "set", 0);
        Edge.refuses(in("n300d020", 1, 0), Edge.STATE, "set", 0);
        Edge.due(in("n300d120", 1, 0).get(), 0, "set", 0);
        Edge.refuses(in("n300b200", 1, 0), Edge.STATE, "set", 0);
        Edge.due(in("n300b020", 1, 0).get(), 0, "set", 0);
        Edge.refuses(in("n303s200", 1, 0), Edge.STATE, "set", 0);
        Edge.refuses(in("n300c220", 1, 1), Edge.STATE, "set", 0);
        Edge.refuses(in("n300c020", 1, 3), Edge.STATE, "set", 0);
        Edge.due(in("n300c020", 1, 1).get(), 2, "set", 0);
        Edge.of(19, "FULL. (FULL last.)");
        dueUntilFull(0, "set", 1);
        Edge.refuses(DeedEdges::full, Edge.STATE, "set", 0);
        Edge.refuses(DeedEdges::full, Edge.STATE, "set", 2);
        Edge.refuses(DeedEdges::full, Edge.BAD, "set", 4);
    }

    private static void undo() {
        Edge.of(20, "DEEDS from number n on are undone: how many.");
        for (int n : new int[] {0, 1, 39, 40}) {
            DoorSold x = full();
            Edge.due(x, 40 - n, "undo", n);
            Edge.due(x, n, "count", 5);
        }
        DoorSold x = full();
        x.undo(1);
        Edge.due(x, 1, "count", 6);
        Edge.due(x, 4, "count", 4);
        Edge.due(x, 0, "count", 3);
        Edge.due(x, 0, "undo", 1);
        Edge.due(x, 1, "undo", 0);
        Edge.due(x, 0, "count", 6);
        Edge.due(x, 0, "undo", 0);
        Edge.due(new DoorSold(), 0, "undo", 0);
        undoneOneByOne();
        Edge.of(20, "BAD.");
        Edge.bounds(DeedEdges::full, 0, 0, 40, "undo", 0);
        Edge.bounds(Edge::busy, 0, 0, 5, "undo", 0);
        Edge.bounds(DoorSold::new, 0, 0, 0, "undo", 0);
    }

    /** AT and LEADS of a DOOR and of a BACK one, PLACE and PURSE: from the last DEED back to none. */
    private static void undoneOneByOne() {
        DoorSold x = moved();
        int[][] before = {{1, 2, 2, 1, 0, 9}, {1, 2, 2, 1, 0, 5}, {1, 2, 2, 1, 0, 4}, {0, 2, 2, 1, 0, 4},
            {0, 2, 2, 0, 0, 4}, {0, 2, 2, 0, 1, 4}};
        for (int n = before.length - 1; n >= 0; n--) {
            Edge.due(x, 1, "undo", n);
            dueStanding(x, before[n]);
        }
    }

    /** With 6 DEEDS: both bought, both set up in PLACE 0, then the ROAD, one sold. */
    private static DoorSold moved() {
        DoorSold x = Due.owning("n309 d124 b213", 2);
        x.set(0);
        x.set(1);
        x.road();
        x.sell(1);
        return x;
    }

    private static void dueStanding(DoorSold x, int... want) {
        Edge.told(x, 1, want[0], "door", 0, 1);
        Edge.told(x, 1, want[1], "door", 0, 2);
        Edge.told(x, 1, want[2], "door", 1, 1);
        Edge.told(x, 1, want[3], "door", 1, 2);
        Edge.due(x, want[4], "count", 2);
        Edge.due(x, want[5], "count", 4);
    }

    private static void keep() {
        Edge.of(21, "The COUNTRY (as it is, DEEDS) is kept in a place (0 .. 2): how many DEEDS.");
        for (int k = 0; k < 3; k++) {
            Edge.due(Due.in(SMALL), 0, "keep", k);
            DoorSold x = full();
            Edge.due(x, 40, "keep", k);
            Edge.due(x, 1, "count", 10);
            x.undo(0);
            Edge.due(x, 40, "on", k);
            Edge.due(x, Edge.FULL, "stay");
            Edge.due(x, 39, "undo", 1);
            Edge.due(x, 40, "on", k);
        }
        Edge.of(21, "BAD;");
        Edge.bounds(Edge::busy, 0, 0, 2, "keep", 0);
        Edge.of(21, "STATE: no DOORS.");
        for (int k = 0; k < 3; k++) Edge.refuses(DoorSold::new, Edge.STATE, "keep", k);
        Edge.refuses(DoorSold::new, Edge.BAD, "keep", 3);
        Edge.refuses(DoorSold::new, Edge.BAD, "keep", -1);
    }

    private static void on() {
        Edge.of(22, "The COUNTRY is as it was kept: how many DEEDS.");
        DoorSold x = moved();
        x.keep(1);
        x.undo(1);
        for (int d = 1; d < 40; d++) x.stay();
        Edge.due(x, 6, "on", 1);
        dueStanding(x, 0, 2, 2, 0, 1, 4);
        Edge.due(x, 3, "undo", 3);
        dueStanding(x, 0, 2, 2, 1, 0, 4);
        Edge.due(x, 3, "undo", 0);
        dueStanding(x, 1, 2, 2, 1, 0, 9);
        Edge.due(x, 6, "on", 1);
        Edge.of(22, "BAD;");
        Edge.bounds(Edge::busy, 0, 0, 2, "on", 0);
        Edge.refuses(DoorSold::new, Edge.BAD, "on", 3);
        Edge.refuses(DoorSold::new, Edge.BAD, "on", -1);
        Edge.of(22, "NOTHING.");
        Edge.finds(Edge::busy, Edge.NOTHING, "on", 1);
        for (int k = 0; k < 3; k++) Edge.finds(DoorSold::new, Edge.NOTHING, "on", k);
        Edge.finds(DeedEdges::keptBefore, Edge.NOTHING, "on", 0);
    }

    /** What was kept went with another COUNTRY. */
    private static DoorSold keptBefore() {
        DoorSold x = Due.in(SMALL);
        x.keep(0);
        x.country(0);
        return x;
    }
}
