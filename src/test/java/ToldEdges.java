/** Boundary cases of the promises 37 to 43: asked, upper, lower, count, finding, findings, digest. */
final class ToldEdges {
    private ToldEdges() {
    }

    static void all() {
        asked();
        askedStays();
        fractions();
        count();
        countAtTheEdges();
        finding();
        findings();
        digest();
        digestOfMissingOnes();
    }

    private static void asked() {
        Edge.of(37, "0 before.");
        Edge.due(new DoorSold(), 0, "asked");
        Edge.due(Due.owning("n200d000", 1), 0, "asked");
        Edge.of(37, "What the latest lay(), at(), mean(), door(), soonest(), cheapest(), shut(), fits(), round(), "
            + "faces()");
        DoorSold x = Due.owning("n799 d050 d500 u027", 1);
        Due.lay(x, 0, 70, 5, 6);
        Edge.told(x, 1, 70, "lay", 0, 0, 80);
        Edge.told(x, 1, 6, "at", 0, 2);
        Edge.told(x, 1, 30, "mean", 0);
        Edge.told(x, 1, 7, "door", 2, 3);
        Edge.told(x, 3, 3, "soonest", 1);
        Edge.told(x, 7, 4, "cheapest", 2, 5);
        Edge.told(x, 1, 1, "shut", 5, 1);
        x.row(1, 0);
        Edge.told(x, 127, 127, "fits", 0, 1);
        Edge.told(x, 2, 5, "round", 5);
        Edge.told(x, 1, 1, "faces");
    }

    private static void askedStays() {
        Edge.of(37, "that was not refused (nor answered NONE) told");
        int[][] none = {{4, 0}, {5, 1}};
        for (int[] args : none) Edge.told(Edge.busy(), Edge.NONE, -6, "cheapest", args);
        Edge.told(Edge.busy(), Edge.NONE, -6, "shut", 1, 0);
        Edge.told(Edge.busy(), Edge.NONE, -6, "round", 2);
        Edge.told(Edge.busy(), Edge.FINDING, -6, "lay", 1, 3, 1);
        Edge.told(Edge.busy(), Edge.FINDING, -6, "at", 1, 3);
        Edge.told(Edge.busy(), Edge.FINDING, -6, "mean", 4);
        Edge.told(Edge.busy(), Edge.BAD, -6, "door", 6, 0);
        Edge.told(Edge.busy(), Edge.BAD, -6, "soonest", 6);
        Edge.told(Edge.busy(), Edge.BAD, -6, "cheapest", 6, 0);
        Edge.told(Edge.busy(), Edge.BAD, -6, "shut", 0, 31);
        Edge.told(Edge.busy(), Edge.FINDING, -6, "fits", 0, 5);
        Edge.told(Edge.busy(), Edge.BAD, -6, "round", 6);
        DoorSold x = new DoorSold();
        Due.lay(x, 0, 5);
        x.at(0, 0);
        Edge.told(x, Edge.STATE, 5, "faces");
    }

    private static void fractions() {
        Edge.of(38, "0 before.");
        Edge.due(new DoorSold(), 0, "upper");
        Edge.of(39, "1 before.");
        Edge.due(new DoorSold(), 1, "lower");
        Edge.of(38, "The upper number that was told last;");
        DoorSold x = Due.owning("n700d050", 1);
        Edge.tells(x, 7, 12, "odds", 5, 1, 5);
        Edge.due(x, Edge.BAD, "odds", 5, 31, 5);
        Edge.due(x, Edge.BAD, "mid", 5, 13);
        Edge.due(x, 7, "upper");
        Edge.due(x, 12, "lower");
        Edge.tells(x, 0, 1, "mid", 0, 5);
    }

    private static void count() {
        Edge.of(40, "BAD.");
        Edge.bounds(Edge::busy, 0, 0, 10, "count", 0);
        Edge.bounds(DoorSold::new, 0, 0, 10, "count", 0);
        Edge.of(40, "0 DOORS, 1 PLACES, 2 the PLACE, 3 the HOUR, 4 the PURSE, 5 DEEDS, 6 DOORS that are BOUGHT (bits)");
        int[] busy = {6, 6, 1, 4, 26, 5, 3, 2, 2, 2, 2};
        for (int what = 0; what < busy.length; what++) {
            Edge.due(new DoorSold(), 0, "count", what);
            Edge.due(Edge.busy(), busy[what], "count", what);
        }
    }

    private static void countAtTheEdges() {
        Edge.of(40, "7 DUTCH ones (CARTS, too), 8 ROWS, 9 TEXTS that are there, 10 kept COUNTRIES.");
        DoorSold x = Due.owning("n799 u000 c000 u000 c000 u000 c000", 6);
        for (int r = 0; r < 6; r++) x.row(r, 0);
        for (int t = 0; t < 4; t++) x.text(t, 0);
        for (int k = 0; k < 3; k++) x.keep(k);
        int[] most = {6, 7, 0, 0, 99, 6, 63, 6, 6, 4, 3};
        for (int what = 0; what < most.length; what++) Edge.due(x, most[what], "count", what);
        Edge.due(Due.in("n200 d000 b000 k000 s000"), 0, "count", 7);
        x.tear(5);
        Edge.due(x, 5, "count", 8);
    }

    private static void finding() {
        Edge.of(41, "The latest FINDING (0 before any).");
        DoorSold x = new DoorSold();
        Edge.due(x, 0, "finding");
        Edge.due(x, Edge.BAD, "at", 6, 0);
        Edge.due(x, Edge.STATE, "road");
        Edge.due(x, 0, "finding");
        Edge.due(x, Edge.FINDING, "at", 0, 0);
        Edge.due(x, Edge.NOTHING, "finding");
        Edge.due(x, Edge.FINDING, "row", 0, -1);
        Edge.due(x, Edge.SIZE, "finding");
        Edge.due(x, 2, "row", 0, 2);
        Edge.due(x, Edge.BAD, "row", 0, 41);
        Edge.due(x, Edge.SIZE, "finding");
    }

    private static void findings() {
        Edge.of(42, "How often a FINDING (1 .. 5) was answered.");
        DoorSold x = Due.in("n200d000");
        for (int f = 1; f <= 5; f++) Edge.due(x, 0, "findings", f);
        x.row(1, 0);
        String[] calls = {"at", "at", "mark", "mean", "row"};
        int[][] args = {{0, 0}, {1, 0}, {0, 1}, {1}, {0, -1}};
        for (int f = 1; f <= 5; f++) {
            for (int often = 1; often <= f; often++) {
                Edge.due(x, Edge.FINDING, calls[f - 1], args[f - 1]);
                Edge.due(x, often, "findings", f);
            }
        }
        for (int f = 1; f <= 5; f++) Edge.due(x, f, "findings", f);
        Edge.of(42, "BAD.");
        Edge.bounds(Edge::busy, 0, 1, 5, "findings", 1);
    }

    private static long onto(long h, long... values) {
        for (long v : values) h = 31 * h + v;
        return h;
    }

    private static void digest() {
        Edge.of(43, "h = 17; then h = 31 h + v for each v");
        long none = onto(17, new long[11]);
        none = onto(none, -1, -1, -1, -1, -1, -1, -1, -1, -1, -1, -1, -1, -1);
        Edge.due(new DoorSold(), none, "digest");
        DoorSold x = new DoorSold();
        Due.lay(x, 0, Edge.LEAST, Edge.MOST);
        x.text(3, 1);
        x.put(3, 0, 128);
        long h = onto(17, 0, 0, 0, 0, 0, 0, 0, 0, 1, 1, 0);
        h = onto(h, -1, -1, -1, 2, Edge.LEAST, Edge.MOST, -1, -1, -1, -1, -1, -1, -1, -1, 1, -128);
        Edge.due(x, h, "digest");
        Edge.keepsAll(DoorSold::new, none, "digest");
    }

    private static void digestOfMissingOnes() {
        Edge.of(43, "of each kept COUNTRY how many DEEDS (-1: missing); of each ROW its size (-1: missing) and places");
        DoorSold x = Due.in("n201k110");
        x.keep(1);
        x.buy(0);
        x.keep(2);
        x.row(5, 0);
        x.row(4, 1);
        x.tear(4);
        long h = onto(17, 1, 2, 0, 0, 0, 1, 1, 0, 1, 1, 2);
        h = onto(h, 3, 1, 1, 1, 1, 1, 1, 1);
        h = onto(h, -1, 0, 1, -1, -1, -1, -1, -1, 0, 8);
        for (char sign : "n201k110".toCharArray()) h = onto(h, sign);
        Edge.due(x, onto(h, -1, -1, -1), "digest");
        Edge.of(43, "of each TEXT likewise.");
        x.text(1, 0);
        h = onto(17, 1, 2, 0, 0, 0, 1, 1, 0, 1, 2, 2);
        h = onto(h, 3, 1, 1, 1, 1, 1, 1, 1);
        h = onto(h, -1, 0, 1, -1, -1, -1, -1, -1, 0, 8);
        for (char sign : "n201k110".toCharArray()) h = onto(h, sign);
        Edge.due(x, onto(h, 0, -1, -1), "digest");
    }
}
