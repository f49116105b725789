import java.util.Arrays;
import java.util.function.Supplier;

/** Boundary cases of the promises 29 to 33: fits, kinds, round, faces, chase. */
final class ClueEdges {
    private static final String TWO_DOORS = "n300 d010 c120";

    private ClueEdges() {
    }

    static void all() {
        withoutClues();
        byTheLastHour();
        cluesRefused(29, "fits");
        cluesRefused(30, "kinds");
        round();
        faces();
        chase();
        chaseByDoors();
        chaseRefused();
    }

    private static Supplier<DoorSold> by(int... clues) {
        return () -> {
            DoorSold x = Due.in(TWO_DOORS);
            Due.lay(x, 0, clues);
            return x;
        };
    }

    private static void withoutClues() {
        Edge.of(29, "by asked() (bits).");
        for (int i = 0; i < 2; i++) Edge.told(by().get(), 7, 7, "fits", i, 0);
        Edge.told(by(0, 0, 2).get(), 0, 4, "fits", 0, 0);
        Edge.of(29, "(By where one goes IN, comes OUT, OPEN.)");
        Edge.told(by(0, 0, 1, 1, 0, 1).get(), 1, 2, "fits", 0, 0);
        Edge.told(by(0, 1, 2, 3, 1, 2).get(), 0, 0, "fits", 1, 0);
        Edge.told(by(0, 1, 2, 2, 0, 2).get(), 2, 4, "fits", 1, 0);
        Edge.of(30, "KINDS (bits) that a DOOR can be of by these");
        for (int i = 0; i < 2; i++) Edge.keepsAll(by(), 63, "kinds", i, 0);
    }

    private static void byTheLastHour() {
        Edge.of(Edge.TERMS, "(a ROW of triples: an HOUR 0 .. 99, where one went IN, where one came OUT, PLACES)");
        Edge.told(by(99, 0, 1).get(), 1, 2, "fits", 0, 0);
        Edge.told(by(98, 0, 2).get(), 2, 4, "fits", 1, 0);
        Edge.told(by(99, 1, 2).get(), 0, 0, "fits", 1, 0);
        Edge.due(by(99, 0, 1).get(), 1 + 8, "kinds", 0, 0);
        Edge.due(by(98, 0, 2).get(), 32, "kinds", 1, 0);
        int[] thirteen = new int[39];
        for (int c = 2; c < 39; c += 3) thirteen[c] = 1;
        Edge.told(by(thirteen).get(), 1, 2, "fits", 0, 0);
        thirteen[38] = 2;
        Edge.told(by(thirteen).get(), 0, 0, "fits", 0, 0);
        Edge.due(by(thirteen).get(), 0, "kinds", 0, 0);
    }

    private static void cluesRefused(int promise, String name) {
        Edge.of(promise, "BAD;");
        Edge.bounds(by(), 0, 0, 1, name, 0, 0);
        Edge.bounds(by(0, 0, 1), 1, 0, 5, name, 0, 0);
        Edge.refuses(DoorSold::new, Edge.BAD, name, 0, 0);
        Edge.of(promise, "NOTHING;");
        for (int r = 1; r <= 5; r++) Edge.finds(by(), Edge.NOTHING, name, 0, r);
        Edge.of(promise, promise == 29 ? "SIZE: not by triples;" : "SIZE;");
        for (int n : new int[] {1, 2, 4, 5, 37, 38, 40}) Edge.finds(by(new int[n]), Edge.SIZE, name, 0, 0);
        Edge.of(promise, promise == 29 ? "UNLIKE: an HOUR, a PLACE that is none." : "UNLIKE.");
        for (int v : new int[] {Edge.LEAST, -1, 100, Edge.MOST}) {
            Edge.finds(by(v, 0, 1), Edge.UNLIKE, name, 0, 0);
            Edge.finds(by(0, 0, 1, v, 0, 1), Edge.UNLIKE, name, 0, 0);
        }
        for (int v : new int[] {Edge.LEAST, -1, 3, Edge.MOST}) {
            Edge.finds(by(0, v, 1), Edge.UNLIKE, name, 0, 0);
            Edge.finds(by(0, 0, v), Edge.UNLIKE, name, 0, 0);
            int[] last = new int[39];
            last[38] = v;
            Edge.finds(by(last), Edge.UNLIKE, name, 0, 0);
        }
        Edge.of(promise, "(In this order.)");
        int[] wrong = new int[40];
        Arrays.fill(wrong, 100);
        Edge.refuses(by(wrong), Edge.BAD, name, 2, 0);
        Edge.refuses(by(), Edge.BAD, name, 2, 1);
        Edge.refuses(DoorSold::new, Edge.BAD, name, 0, 1);
        Edge.finds(by(wrong), Edge.SIZE, name, 0, 0);
        Edge.finds(by(0, 2, 2, -1, 0, 0), Edge.UNLIKE, name, 0, 0);
    }

    private static void round() {
        Edge.of(31, "the first PLACE of the round that one comes to by asked().");
        Edge.told(Due.in("n200d110"), 1, 1, "round", 1);
        Edge.told(Due.in("n700 d010 d120 d230 d340 d450 d500"), 6, 3, "round", 3);
        Edge.told(Due.in("n700 d010 d120 d230 d340 d450 d530"), 3, 3, "round", 0);
        Edge.told(Due.in("n700 d660 d010 d120 d230 d340 d460"), 1, 6, "round", 0);
        Edge.told(Due.in("n600 d010 d120 d230 d340 d450 d500"), 6, 5, "round", 5);
        Edge.told(Due.in("n200 d010 d100"), 2, 1, "round", 1);
        Edge.of(31, "(BOUGHT or not, as if it was OPEN) where one goes IN in this HOUR, the HOUR staying as it is;");
        for (int h = 0; h <= 4; h++) {
            Edge.told(Edge.after(h, "n300 u010 k120 d200"), 3, 0, "round", 0);
            Edge.told(Edge.after(h, "n300c000"), h % 3 == 0 ? 1 : Edge.NONE, 0, "round", 0);
            Edge.told(Edge.after(h, "n300 c010 d110"), 1, 1, "round", h % 3);
        }
        Edge.of(31, "NONE: one comes to a PLACE where there is none.");
        Edge.keepsAll(() -> Due.in("n200d110"), Edge.NONE, "round", 0);
        Edge.keepsAll(() -> Due.in("n700 d010 d120 d230 d340 d450 d560"), Edge.NONE, "round", 0);
        Edge.keepsAll(() -> Due.in("n700 d010 d120 d230 d340 d450 d560"), Edge.NONE, "round", 6);
        Edge.of(31, "BAD.");
        Edge.bounds(by(), 0, 0, 2, "round", 0);
        Edge.bounds(Edge::busy, 0, 0, 5, "round", 0);
        Edge.refuses(DoorSold::new, Edge.BAD, "round", 0);
    }

    private static void faces() {
        Edge.of(32, "the first by asked() (10 times the lesser number and the other one; NONE).");
        Edge.told(Due.in("n200d000"), 0, Edge.NONE, "faces");
        Edge.told(Due.in("n200d010d000"), 0, Edge.NONE, "faces");
        Edge.told(Due.in("n200d000d000"), 1, 1, "faces");
        Edge.told(Due.in("n200 d000 d000 d000 d000 d000 d000"), 15, 1, "faces");
        Edge.told(Due.in("n700 d010 d230 d340 d560 d120 d210"), 1, 45, "faces");
        Edge.of(32, "(either one comes OUT where one goes IN the other one, in this HOUR)");
        for (int h = 0; h <= 5; h++) Edge.due(Edge.after(h, "n300c010d100"), h % 3 == 0 ? 1 : 0, "faces");
        Edge.told(Due.in("n300d010d120"), 0, Edge.NONE, "faces");
        Edge.told(Due.in("n300d010b010"), 1, 1, "faces");
        Edge.of(32, "STATE: no DOORS.");
        Edge.refuses(DoorSold::new, Edge.STATE, "faces");
    }

    private static void chase() {
        Edge.of(33, "(both in one PLACE; 0: now)");
        for (int p = 0; p < 3; p++) {
            for (int n : new int[] {0, 1, 6}) Edge.due(by().get(), 0, "chase", p, p, n);
        }
        Edge.of(33, "NONE: not in n.");
        for (int n = 0; n <= 6; n++) {
            int due = n < 2 ? Edge.NONE : 2;
            Edge.keepsAll(() -> Due.in("n200d000"), due, "chase", 0, 1, n);
            Edge.due(Due.in("n700d000"), Edge.NONE, "chase", 0, 1, n);
        }
        DoorSold x = Due.in("n400 d110 d020 d010 d200 d010");
        for (int n = 0; n <= 6; n++) {
            Edge.due(x, n < 6 ? Edge.NONE : 6, "chase", 0, 1, n);
            Edge.due(x, n < 4 ? Edge.NONE : 4, "chase", 0, 2, n);
        }
    }

    /** From 0 one comes anywhere by the DOOR and the ROAD, so a collector there has him by his first turn. */
    private static void chaseByDoors() {
        Edge.of(33, "each stays, or goes through a DOOR (BOUGHT or not, as if it was OPEN, in this HOUR), or by the "
            + "ROAD.");
        for (int h = 0; h <= 4; h++) {
            Edge.due(Edge.after(h, "n300d020"), 2, "chase", 2, 0, 2);
            Edge.due(Edge.after(h, "n300u020"), 2, "chase", 1, 0, 2);
            Edge.due(Edge.after(h, "n300k020"), 2, "chase", 2, 0, 2);
            Edge.due(Edge.after(h, "n300b200"), 2, "chase", 1, 0, 2);
            Edge.due(Edge.after(h, "n300c020"), h % 3 == 0 ? 2 : Edge.NONE, "chase", 1, 0, 2);
        }
        Edge.due(Due.in("n300d000"), Edge.NONE, "chase", 1, 0, 6);
        for (int p = 1; p < 7; p++) Edge.due(Due.in("n700 d010 d020 d030 d040 d050 d060"), 2, "chase", p, 0, 6);
        Edge.of(33, "the collector wanting soon, the smuggler late.");
        Edge.due(Due.in("n300 d210 d100"), 4, "chase", 1, 0, 6);
        Edge.due(Due.in("n300 d210 d100"), 2, "chase", 0, 1, 6);
    }

    private static void chaseRefused() {
        Edge.of(33, "by turns n (0 .. 6) in all");
        Edge.bounds(by(), 2, 0, 6, "chase", 0, 1, 2);
        Edge.bounds(by(), 2, 0, 6, "chase", 1, 1, 2);
        Edge.of(33, "BAD;");
        Edge.bounds(by(), 0, 0, 2, "chase", 0, 1, 2);
        Edge.bounds(by(), 1, 0, 2, "chase", 0, 1, 2);
        Edge.of(33, "STATE: no DOORS (ahead of BAD).");
        for (int v : new int[] {Edge.LEAST, -1, 0, 7, Edge.MOST}) {
            Edge.refuses(DoorSold::new, Edge.STATE, "chase", v, 0, 0);
            Edge.refuses(DoorSold::new, Edge.STATE, "chase", 0, v, 0);
            Edge.refuses(DoorSold::new, Edge.STATE, "chase", 0, 0, v);
        }
    }
}
