/** Boundary cases of the promises 23 to 28: where, soonest, way, cheapest, shut, worth. */
final class WayEdges {
    private WayEdges() {
    }

    static void all() {
        where();
        soonest();
        wayAnew();
        wayRefused();
        cheapest();
        cheapestOfAsCheapOnes();
        refused(26, "cheapest");
        shut();
        refused(27, "shut");
        worth();
    }

    private static DoorSold small() {
        return Due.owning("n300d020", 1);
    }

    private static void where() {
        Edge.of(23, "PLACES (bits) where one can be in just n (0 .. 30) HOURS.");
        DoorSold x = Due.in("n700d010");
        int[] places = {1, 1, 1, 3, 3, 3, 7};
        for (int n = 0; n < places.length; n++) Edge.due(x, places[n], "where", n);
        Edge.due(x, 63, "where", 17);
        Edge.due(x, 127, "where", 18);
        Edge.due(x, 127, "where", 30);
        x.buy(0);
        Edge.due(x, 1, "where", 0);
        Edge.due(x, 3, "where", 1);
        Edge.keepsAll(Edge::busy, 63, "where", 30);
        Edge.of(23, "BAD;");
        Edge.bounds(Edge::busy, 0, 0, 30, "where", 0);
        Edge.of(23, "STATE: no DOORS.");
        Edge.refuses(DoorSold::new, Edge.STATE, "where", 0);
        Edge.refuses(DoorSold::new, Edge.STATE, "where", 30);
        for (int n : new int[] {Edge.LEAST, -1, 31, Edge.MOST}) Edge.refuses(DoorSold::new, Edge.BAD, "where", n);
    }

    private static void soonest() {
        Edge.of(24, "In how many HOURS (0 .. 30) one can be first at a PLACE;");
        DoorSold x = Due.in("n700d060");
        for (int p = 0; p < 7; p++) Edge.due(x, 3 * p, "soonest", p);
        x.buy(0);
        Edge.due(x, 1, "soonest", 6);
        Edge.due(x, 15, "soonest", 5);
        x.road();
        Edge.due(x, 0, "soonest", 1);
        Edge.due(x, 18, "soonest", 0);
        Edge.of(24, "how many PLACES one can be at in as many, or fewer, by asked().");
        x = Due.owning("n700 d010 d020 u030 s409", 3);
        int[] hours = {0, 1, 1, 2, 5, 8, 11};
        int[] many = {1, 3, 3, 4, 5, 6, 7};
        for (int p = 0; p < 7; p++) Edge.told(x, hours[p], many[p], "soonest", p);
        Edge.of(24, "BAD.");
        Edge.bounds(WayEdges::small, 0, 0, 2, "soonest", 0);
        Edge.bounds(Edge::busy, 0, 0, 5, "soonest", 0);
        Edge.refuses(DoorSold::new, Edge.BAD, "soonest", 0);
    }

    private static void dueWay(DoorSold x, int place, int... steps) {
        Edge.due(x, steps.length, "way", place, 1);
        for (int k = 0; k < steps.length; k++) Edge.told(x, 1, steps[k], "at", 1, k);
        Edge.due(x, Edge.FINDING, "at", 1, steps.length);
    }

    private static void wayAnew() {
        Edge.of(25, "come to a ROW (anew; the first by numbers): how many.");
        DoorSold x = Due.owning("n700 d050 d050", 2);
        x.row(1, 40);
        dueWay(x, 5, 0);
        dueWay(x, 0);
        x.tear(1);
        dueWay(x, 0);
        Edge.due(x, 1, "count", 8);
        dueWay(x, 6, 0, 6);
        dueWay(Due.owning("n700 d340 d140 d030 d010", 4), 4, 2, 0);
        dueWay(Edge.withDeeds(3, "n700 u050 d000", 2), 5, 1, 0);
        dueWay(Edge.withDeeds(2, "n700 u050", 1), 5, 7, 0);
        dueWay(Due.in("n700d000"), 6, 6, 6, 6, 6, 6, 6);
        dueWay(Due.owning("n700d000", 1), 1, 6);
        dueWay(Due.owning("n700 c150", 1), 5, 7, 7, 7, 7, 7, 7, 0);
        dueWay(Due.owning("n700 d000 c150", 2), 5, 0, 0, 0, 0, 0, 0, 1);
        dueWay(Due.owning("n700 d110 d110 d110 d110 d110 d050", 6), 5, 5);
    }

    private static void wayRefused() {
        Edge.of(25, "BAD.");
        Edge.bounds(WayEdges::small, 0, 0, 2, "way", 0, 1);
        Edge.bounds(Edge::busy, 0, 0, 5, "way", 0, 1);
        Edge.bounds(Edge::busy, 1, 0, 5, "way", 0, 1);
        Edge.refuses(DoorSold::new, Edge.BAD, "way", 0, 0);
    }

    private static void cheapest() {
        Edge.of(26, "(however much the PURSE has)");
        Edge.told(Due.in("n700d059"), 9, 1, "cheapest", 5, 1);
        Edge.told(Due.in("n700 s509 d569"), 16, 3, "cheapest", 6, 4);
        Edge.told(Due.in("n700 d019 d129 d239 d349 d459 d569"), 54, 63, "cheapest", 6, 6);
        Edge.of(26, "one can be at a PLACE in n HOURS, or sooner;");
        DoorSold x = Due.in("n700 d055");
        Edge.due(x, Edge.NONE, "cheapest", 5, 0);
        for (int n : new int[] {1, 2, 14}) Edge.told(x, 5, 1, "cheapest", 5, n);
        for (int n : new int[] {15, 30}) Edge.told(x, 0, 0, "cheapest", 5, n);
        Edge.told(x, 0, 0, "cheapest", 0, 0);
        Edge.of(26, "The least that DOORS not yet BOUGHT COST together");
        Edge.told(Due.owning("n709d059", 1), 0, 0, "cheapest", 5, 1);
        Edge.told(Due.owning("n709 d039 d354", 1), 4, 2, "cheapest", 5, 2);
        Edge.of(26, "NONE: by none.");
        Edge.keepsAll(Edge::busy, Edge.NONE, "cheapest", 4, 0);
        Edge.keepsAll(() -> Due.in("n700d019"), Edge.NONE, "cheapest", 6, 15);
        Edge.told(Due.in("n700d019"), 9, 1, "cheapest", 6, 16);
        Edge.keepsAll(() -> Edge.after(1, "n700u059"), Edge.NONE, "cheapest", 5, 2);
        Edge.told(Edge.after(1, "n700u059"), 9, 1, "cheapest", 5, 3);
    }

    private static void cheapestOfAsCheapOnes() {
        Edge.of(26, "which by asked() (bits; of as cheap ones the least number).");
        Edge.told(Due.in("n700 d054 d054"), 4, 1, "cheapest", 5, 1);
        Edge.told(Due.in("n700 d054 d032 d352"), 4, 1, "cheapest", 5, 2);
        Edge.told(Due.in("n700 d032 d352 d054"), 4, 3, "cheapest", 5, 2);
        Edge.told(Due.in("n700 d000 d050 d050"), 0, 2, "cheapest", 5, 1);
        Edge.told(Due.in("n700 d110 d110 d110 d110 d110 d059"), 9, 32, "cheapest", 5, 1);
        DoorSold x = Due.owning("n709 d039 d352 d352", 1);
        Edge.told(x, 2, 2, "cheapest", 5, 2);
        Edge.told(x, 0, 0, "cheapest", 3, 1);
    }

    private static void shut() {
        Edge.of(27, "one can't be at a PLACE in n HOURS, nor sooner;");
        DoorSold x = Due.owning("n700 d050", 1);
        Edge.told(x, 0, 0, "shut", 5, 0);
        for (int n : new int[] {1, 2, 14}) Edge.told(x, 1, 1, "shut", 5, n);
        Edge.of(27, "The fewest DOORS (of those BOUGHT)");
        Edge.told(Due.owning("n700 d050 d050 d050", 2), 2, 3, "shut", 5, 1);
        Edge.told(Due.in("n700 d050 d050 d050"), 0, 0, "shut", 5, 14);
        Edge.of(27, "NONE: by none.");
        for (int n : new int[] {15, 30}) Edge.due(x, Edge.NONE, "shut", 5, n);
        Edge.keepsAll(Edge::busy, Edge.NONE, "shut", 1, 0);
        Edge.keepsAll(Edge::busy, Edge.NONE, "shut", 0, 30);
        Edge.of(27, "which by asked() (bits; the least number).");
        Edge.told(Due.owning("n700 d030 d350", 2), 1, 1, "shut", 5, 2);
        Edge.told(Due.owning("n700 d350 d000 d030", 3), 1, 1, "shut", 5, 2);
        Edge.told(Due.owning("n700 d050 d050 d050 d050 d050 d050", 6), 6, 63, "shut", 5, 1);
        Edge.told(Due.owning("n700 d110 d110 d110 d110 d110 d050", 6), 1, 32, "shut", 5, 1);
        Edge.told(Due.owning("n700 d050 d050", 1), 1, 1, "shut", 5, 1);
        Edge.told(Due.owning("n700 d010 d010 d150", 3), 1, 4, "shut", 5, 2);
    }

    /** What cheapest() and shut() refuse alike: a PLACE, HOURS that are none. */
    private static void refused(int promise, String name) {
        Edge.of(promise, "BAD.");
        Edge.bounds(WayEdges::small, 0, 0, 2, name, 0, 5);
        Edge.bounds(Edge::busy, 0, 0, 5, name, 0, 5);
        Edge.bounds(Edge::busy, 1, 0, 30, name, 0, 5);
        Edge.refuses(DoorSold::new, Edge.BAD, name, 0, 0);
    }

    private static void worth() {
        Edge.of(28, "(BOUGHT already: how many later, if it was not).");
        for (int bought = 0; bought <= 1; bought++) {
            DoorSold x = Due.owning("n700 d060", bought);
            Edge.due(x, 0, "worth", 0, 0);
            Edge.due(x, 0, "worth", 0, 5);
            Edge.due(x, 17, "worth", 0, 6);
        }
        Edge.of(28, "BAD.");
        Edge.bounds(WayEdges::small, 0, 0, 0, "worth", 0, 0);
        Edge.bounds(WayEdges::small, 1, 0, 2, "worth", 0, 0);
        Edge.bounds(Edge::busy, 0, 0, 5, "worth", 0, 0);
        Edge.bounds(Edge::busy, 1, 0, 5, "worth", 0, 0);
        Edge.refuses(DoorSold::new, Edge.BAD, "worth", 0, 0);
    }
}
