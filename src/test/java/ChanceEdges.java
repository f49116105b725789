import java.math.BigInteger;

/** Boundary cases of the promises 34 to 36: odds, mid, lots. */
final class ChanceEdges {
    private ChanceEdges() {
    }

    static void all() {
        odds();
        oddsRefused();
        mid();
        lots();
        lotsWithoutDoors();
        lotsBySeeds();
        lotsRefused();
    }

    private static DoorSold one() {
        return Due.owning("n700d050", 1);
    }

    private static void odds() {
        Edge.of(34, "in n (0 .. 30) HOURS, or sooner");
        Edge.tells(one(), 0, 1, "odds", 5, 0, 6);
        Edge.tells(one(), 1, 1, "odds", 0, 0, 6);
        for (int n : new int[] {1, 2, 14}) Edge.tells(one(), 1, 2, "odds", 5, n, 6);
        for (int n : new int[] {15, 30}) Edge.tells(one(), 1, 1, "odds", 5, n, 6);
        Edge.of(34, "is bricked up by p (0 .. 12) of 12, each by itself: 1.");
        Edge.tells(one(), 1, 1, "odds", 5, 1, 0);
        Edge.tells(one(), 11, 12, "odds", 5, 1, 1);
        Edge.tells(one(), 1, 12, "odds", 5, 1, 11);
        Edge.tells(one(), 0, 1, "odds", 5, 1, 12);
        DoorSold x = Due.owning("n700 d050 d050 d050 d050 d050 d050", 6);
        Edge.tells(x, 1, 1, "odds", 5, 1, 0);
        Edge.tells(x, 2985983, 2985984, "odds", 5, 1, 1);
        Edge.tells(x, 1214423, 2985984, "odds", 5, 1, 11);
        Edge.tells(x, 0, 1, "odds", 5, 1, 12);
        Edge.tells(Due.in("n700d050"), 0, 1, "odds", 5, 14, 0);
        Edge.tells(Due.in("n700d050"), 1, 1, "odds", 5, 15, 12);
    }

    private static void oddsRefused() {
        Edge.of(34, "BAD.");
        Edge.bounds(Edge::busy, 0, 0, 5, "odds", 0, 3, 4);
        Edge.bounds(Edge::busy, 1, 0, 30, "odds", 0, 3, 4);
        Edge.bounds(Edge::busy, 2, 0, 12, "odds", 0, 3, 4);
        Edge.bounds(ChanceEdges::one, 0, 0, 6, "odds", 0, 3, 4);
        Edge.refuses(DoorSold::new, Edge.BAD, "odds", 0, 0, 0);
    }

    private static void mid() {
        Edge.of(35, "The mean of how soon one can be there (0 .. 30): 1.");
        Edge.tells(one(), 0, 1, "mid", 0, 6);
        Edge.tells(one(), 1, 1, "mid", 5, 0);
        Edge.tells(one(), 13, 6, "mid", 5, 1);
        Edge.tells(one(), 83, 6, "mid", 5, 11);
        Edge.tells(one(), 15, 1, "mid", 5, 12);
        Edge.tells(Due.in("n700d050"), 18, 1, "mid", 6, 6);
        Edge.of(35, "BAD.");
        Edge.bounds(Edge::busy, 0, 0, 5, "mid", 0, 4);
        Edge.bounds(Edge::busy, 1, 0, 12, "mid", 0, 4);
        Edge.bounds(ChanceEdges::one, 0, 0, 6, "mid", 0, 4);
        Edge.refuses(DoorSold::new, Edge.BAD, "mid", 0, 0);
    }

    /** Seed 1 gives 48271, 182605794, 1291394886, ..: WAITING, the ROAD, the ROAD where no DOOR can be gone through. */
    private static void lots() {
        Edge.of(36, "n (1 .. 20) DEEDS truly by LOTS of a seed");
        DoorSold x = Due.in("n300d000");
        Edge.due(x, 0, "lots", 1, 1);
        Edge.due(x, 1, "count", 5);
        Edge.due(x, 1, "count", 3);
        x = Due.in("n300d000");
        Edge.due(x, 2, "lots", 3, 1);
        Edge.due(x, 7, "count", 3);
        x.undo(0);
        Edge.due(x, roads(20, 1) % 3, "lots", 20, 1);
        Edge.due(x, 20, "count", 5);
        Edge.due(x, 20 + 2 * roads(20, 1), "count", 3);
        Edge.of(36, "that it by 8, cut, modulo how many there are is, if that can be");
        Edge.due(Due.owning("n700d050", 1), 5, "lots", 1, 1);
        Edge.due(Due.owning("n700d030d050", 2), 5, "lots", 1, 1);
        Edge.due(Due.owning("n700d030d050", 1), 0, "lots", 1, 1);
        Edge.due(Due.owning("n700 d010 d020 d030 d040 d050 d060", 6), 4, "lots", 1, 1);
        Edge.due(Due.owning("n700 d000 d010 d020 d030 d040 d060", 6), 3, "lots", 1, 1);
    }

    /** Seed 2 gives 96542, which 3 does not divide; seed 3 gives 144813, which it does. */
    private static void lotsWithoutDoors() {
        Edge.of(36, "else, if it modulo 3 is 0, by the ROAD, else one WAITS: the PLACE then.");
        for (int seed = 1; seed <= 6; seed++) {
            DoorSold x = Due.in("n200d000");
            Edge.due(x, seed % 3 == 0 ? 1 : 0, "lots", 1, seed);
            Edge.due(x, seed % 3 == 0 ? 3 : 1, "count", 3);
        }
    }

    /** How many of the first n numbers lead by the ROAD, by whole numbers without bounds. */
    private static int roads(int n, long seed) {
        BigInteger lot = BigInteger.valueOf(seed);
        int roads = 0;
        for (int k = 0; k < n; k++) {
            lot = lot.multiply(BigInteger.valueOf(48271)).mod(BigInteger.valueOf(2147483647));
            if (lot.mod(BigInteger.valueOf(3)).signum() == 0) roads++;
        }
        return roads;
    }

    private static void lotsBySeeds() {
        Edge.of(36, "by 48271 times it modulo 2147483647, the first from the seed (1 .. 2147483646)");
        for (int seed : new int[] {1, 2, 44488, 44489, 2147483645, 2147483646}) {
            for (int n : new int[] {1, 2, 20}) {
                DoorSold x = Due.in("n700d110");
                Edge.due(x, roads(n, seed) % 7, "lots", n, seed);
                Edge.due(x, n + 2 * roads(n, seed), "count", 3);
            }
        }
        Edge.bounds(Edge::busy, 1, 1, 2147483646, "lots", 3, 1);
    }

    private static void lotsRefused() {
        Edge.of(36, "BAD;");
        Edge.bounds(Edge::busy, 0, 1, 20, "lots", 3, 1);
        for (int v : new int[] {Edge.LEAST, -1, 0, 21, Edge.MOST}) Edge.refuses(DoorSold::new, Edge.BAD, "lots", v, 1);
        for (int v : new int[] {Edge.LEAST, -1, 0, Edge.MOST}) Edge.refuses(DoorSold::new, Edge.BAD, "lots", 1, v);
        Edge.of(36, "STATE: no DOORS;");
        Edge.refuses(DoorSold::new, Edge.STATE, "lots", 1, 1);
        Edge.refuses(DoorSold::new, Edge.STATE, "lots", 20, 2147483646);
        Edge.of(36, "FULL: with n more there would be more than 40 DEEDS. (FULL last.)");
        int[][] deedsAndLots = {{20, 20}, {39, 1}, {38, 2}, {21, 19}};
        for (int[] both : deedsAndLots) {
            DoorSold x = Edge.after(both[0], "n700d050");
            Edge.due(x, roads(both[1], 7) % 7, "lots", both[1], 7);
            Edge.due(x, 40, "count", 5);
            Edge.refuses(() -> Edge.after(both[0] + 1, "n700d050"), Edge.FULL, "lots", both[1], 7);
        }
        Edge.refuses(() -> Edge.after(40, "n700d050"), Edge.FULL, "lots", 20, 7);
        Edge.refuses(() -> Edge.after(40, "n700d050"), Edge.BAD, "lots", 0, 7);
        Edge.refuses(() -> Edge.after(40, "n700d050"), Edge.BAD, "lots", 1, 0);
    }
}
