/** Boundary cases of the promises 10 to 13: fault, country, door, mark. */
final class CountryEdges {
    private CountryEdges() {
    }

    static void all() {
        fault();
        country();
        countryRefused();
        door();
        markOfDutchOnes();
        markOfBackOnes();
        markOfBrickedOnes();
        markOfStudies();
        markOfCarts();
        markRefused();
    }

    private static DoorSold written(String signs) {
        DoorSold x = new DoorSold();
        Due.write(x, 1, signs);
        return x;
    }

    private static void fault() {
        Edge.of(10, "A FAULT of a TEXT;");
        Edge.due(written(""), 0, "fault", 1);
        Edge.due(written("x"), 0, "fault", 1);
        Edge.due(written(" ".repeat(59) + "x"), 59, "fault", 1);
        Edge.due(written(" ".repeat(60)), 60, "fault", 1);
        Edge.of(10, "NONE: there is none.");
        Edge.due(written("n200d000"), Edge.NONE, "fault", 1);
        Edge.due(written("n200" + " ".repeat(52) + "d000"), Edge.NONE, "fault", 1);
        Edge.keepsAll(() -> written("n200d000"), Edge.NONE, "fault", 1);
        Edge.of(10, "BAD;");
        Edge.bounds(Edge::busy, 0, 0, 3, "fault", 0);
        Edge.of(10, "NOTHING.");
        Edge.finds(Edge::busy, Edge.NOTHING, "fault", 1);
        Edge.finds(Edge::busy, Edge.NOTHING, "fault", 3);
    }

    private static void country() {
        Edge.of(11, "(anew: HOUR 0, PLACE 0, nothing BOUGHT, no DEEDS; kept COUNTRIES go): how many DOORS.");
        DoorSold x = Edge.busy();
        Edge.due(x, 6, "country", 0);
        for (int what : new int[] {3, 2, 6, 5, 10}) Edge.due(x, 0, "count", what);
        Edge.due(x, 40, "count", 4);
        Edge.due(x, Edge.BAD, "undo", 1);
        for (int k = 0; k < 3; k++) Edge.due(x, Edge.FINDING, "on", k);
        Edge.told(x, 1, 1, "door", 1, 1);
        Edge.due(written("n200d000"), 1, "country", 1);
        Edge.due(written("n200d000d000d000d000d000d000"), 6, "country", 1);
        x = Edge.busy();
        Edge.due(x, 63, "where", 30);
        Due.enter(x, "n200d119");
        Edge.due(x, 2, "count", 1);
        Edge.due(x, Edge.BAD, "door", 1, 0);
        Edge.due(x, 3, "where", 30);
    }

    private static void countryRefused() {
        Edge.of(11, "BAD;");
        Edge.bounds(Edge::busy, 0, 0, 3, "country", 0);
        Edge.of(11, "NOTHING;");
        Edge.finds(Edge::busy, Edge.NOTHING, "country", 1);
        Edge.finds(Edge::busy, Edge.NOTHING, "country", 3);
        Edge.of(11, "STATE: a FAULT.");
        Edge.refuses(Edge::busy, Edge.STATE, "country", 2);
        String[] faulty = {"", " ", "x", "n200", "n100d000", "n800d000", "n200d020", "n200d00", "n200 d00 0",
            "n200d000d000d000d000d000d000d000"};
        for (String signs : faulty) Edge.refuses(() -> written(signs), Edge.STATE, "country", 1);
        Edge.of(11, "(STATE behind NOTHING.)");
        Edge.finds(DoorSold::new, Edge.NOTHING, "country", 0);
        Edge.finds(() -> written("x"), Edge.NOTHING, "country", 0);
    }

    private static void door() {
        Edge.of(12, "4 where one goes IN now, 5 whether it is OPEN now (1, 0)");
        DoorSold x = Edge.after(5, "n600 c100 u120 k120");
        int[][] want = {{0, 0}, {1, 0}, {1, 0}};
        for (int i = 0; i < 3; i++) {
            Edge.told(x, 1, want[i][0], "door", i, 4);
            Edge.told(x, 1, want[i][1], "door", i, 5);
        }
        x.stay();
        Edge.told(x, 1, 1, "door", 0, 4);
        for (int i = 0; i < 3; i++) Edge.told(x, 1, 1, "door", i, 5);
        Edge.of(12, "7 whether it is BOUGHT (1, 0)");
        x = Due.owning("n200 d000 d000", 1);
        Edge.told(x, 1, 1, "door", 0, 7);
        Edge.told(x, 1, 0, "door", 1, 7);
        x.sell(0);
        Edge.told(x, 1, 0, "door", 0, 7);
        Edge.of(12, "BAD.");
        Edge.bounds(Edge::busy, 0, 0, 5, "door", 0, 0);
        Edge.bounds(Edge::busy, 1, 0, 7, "door", 0, 0);
        Edge.bounds(() -> Due.in("n700d009"), 0, 0, 0, "door", 0, 7);
        Edge.refuses(DoorSold::new, Edge.BAD, "door", 0, 0);
    }

    private static void markOfDutchOnes() {
        Edge.of(13, "a DUTCH one (CART, too) how many other DOORS are OPEN now");
        Edge.due(Due.in("n200u000"), 0, "mark", 0, 1);
        Edge.due(Due.in("n200c000"), 0, "mark", 0, 1);
        String six = "n200 u000 d000 b000 k000 s000 c000";
        int[] open = {5, 3, 4, 4, 4, 3, 5};
        for (int hour = 0; hour < open.length; hour++) {
            Edge.due(Edge.after(hour, six), open[hour], "mark", 0, 1);
            Edge.due(Edge.after(hour, six), open[hour], "mark", 5, 1);
        }
    }

    private static void markOfBackOnes() {
        Edge.of(13, "how much less it COSTS than its PRICE (0 at least)");
        int[] back = {0, 1, 1, 2, 2, 3, 3, 4, 4, 5};
        int[] study = {0, 0, 0, 0, 0, 0, 0, 1, 1, 2};
        for (int price = 0; price <= 9; price++) {
            DoorSold x = Due.in("n200b00" + price + "s00" + price);
            Edge.due(x, back[price], "mark", 0, 2);
            Edge.due(x, study[price], "mark", 1, 2);
        }
    }

    private static void markOfBrickedOnes() {
        Edge.of(13, "a BRICKED one in how many HOURS it is OPEN (0: now)");
        int[] hours = {0, 2, 1, 0, 2, 1, 0};
        for (int h = 0; h < hours.length; h++) Edge.due(Edge.after(h, "n200k000"), hours[h], "mark", 0, 3);
        Edge.due(Edge.after(40, "n200k000"), 2, "mark", 0, 3);
    }

    private static void markOfStudies() {
        Edge.of(13, "a STUDY how many HOURS the ROADS would take from where one goes IN to where one comes OUT");
        Edge.due(Due.in("n200s110"), 0, "mark", 0, 4);
        Edge.due(Due.in("n200s100"), 3, "mark", 0, 4);
        Edge.due(Due.in("n200s010"), 3, "mark", 0, 4);
        Edge.due(Due.in("n700s060"), 3, "mark", 0, 4);
        Edge.due(Due.in("n700s600"), 18, "mark", 0, 4);
        Edge.due(Due.in("n700s010"), 18, "mark", 0, 4);
    }

    private static void markOfCarts() {
        Edge.of(13, "a CART in how many HOURS one can go IN (OPEN or not) where one is now (0: now).");
        Edge.due(Due.in("n700c000"), 0, "mark", 0, 5);
        Edge.due(Due.in("n700c100"), 6, "mark", 0, 5);
        Edge.due(Due.in("n700c600"), 1, "mark", 0, 5);
        int[] hours = {1, 0, 3, 2, 1, 0};
        for (int h = 0; h < hours.length; h++) Edge.due(Edge.after(h, "n400c300"), hours[h], "mark", 0, 5);
        DoorSold x = Due.in("n400c000");
        for (int r = 1; r <= 3; r++) {
            x.road();
            Edge.due(x, (r - 3 * r + 8) % 4, "mark", 0, 5);
        }
    }

    /** Whether a DOOR of the first KIND IS of the other one. */
    private static boolean is(int kind, int other) {
        return kind == other || kind == 4 && other == 2 || kind == 5 && other == 1;
    }

    private static void markRefused() {
        Edge.of(13, "BAD: also KIND 0;");
        for (int i = 0; i < 6; i++) Edge.bounds(Edge::busy, 1, 1, 5, "mark", i, 1);
        for (int kind = 1; kind <= 5; kind++) Edge.bounds(Edge::busy, 0, 0, 5, "mark", 0, kind);
        Edge.refuses(DoorSold::new, Edge.BAD, "mark", 0, 1);
        Edge.of(13, "UNLIKE.");
        for (int i = 0; i < 6; i++) {
            for (int kind = 1; kind <= 5; kind++) {
                if (!is(i, kind)) Edge.finds(Edge::busy, Edge.UNLIKE, "mark", i, kind);
            }
        }
    }
}
