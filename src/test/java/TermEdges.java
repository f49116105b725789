/** Boundary cases of what stands ahead of the promises: refusals, FINDINGS, sizes, COUNTRIES, KINDS, DEEDS. */
final class TermEdges {
    private TermEdges() {
    }

    static void all() {
        refusalsInOrder();
        refusedChangesNothing();
        findings();
        fractions();
        sizes();
        blanks();
        head();
        doors();
        faults();
        faultsAtTheEnd();
        kindsByTheHour();
        hours();
        costs();
        roads();
        deeds();
        steps();
        waysAside();
        calls();
    }

    private static void refusalsInOrder() {
        Edge.of(Edge.TERMS, "Refused is, the first of these that fits, in this order: BAD -1 (a number that is none, "
            + "or not as told), FULL -2, STATE -4 (not now), SPENT -6 (more than told), FINDING -3 (finding() tells "
            + "which), unless a call says so otherwise.");
        Edge.refuses(DoorSold::new, -1, "row", 6, -1);
        Edge.refuses(DoorSold::new, -1, "where", 31);
        Edge.refuses(DoorSold::new, -1, "keep", 3);
        Edge.refuses(DoorSold::new, -1, "lots", 0, 1);
        Edge.refuses(() -> Edge.withDeeds(40, "n200d000", 0), -2, "stay");
        Edge.refuses(() -> Due.owning("n209d009", 1), -4, "buy", 0);
        Edge.refuses(() -> Due.in("n208d009"), -6, "buy", 0);
        Edge.finds(DoorSold::new, Edge.NOTHING, "on", 0);
        Edge.due(new DoorSold(), -3, "on", 0);
        Edge.of(Edge.TERMS, "NONE -9.");
        Edge.due(Due.in("n200d000"), -9, "round", 1);
    }

    private static void refusedChangesNothing() {
        Edge.of(Edge.TERMS, "What is refused changes nothing but finding(), findings().");
        String[] calls = {"row", "lay", "at", "tear", "copy", "mean", "text", "put", "fault", "country", "door", "mark",
            "go", "buy", "sell", "set", "undo", "keep", "on", "where", "soonest", "way", "cheapest", "shut", "worth",
            "fits", "kinds", "round", "chase", "odds", "mid", "lots", "count", "findings"};
        int[] numbers = {2, 3, 2, 1, 5, 1, 2, 3, 1, 1, 2, 2,
            1, 1, 1, 1, 1, 1, 1, 1, 1, 2, 2, 2, 2,
            2, 2, 1, 3, 3, 2, 2, 1, 1};
        for (int c = 0; c < calls.length; c++) {
            for (int v : new int[] {Edge.LEAST, -1, 61, Edge.MOST}) {
                int[] args = new int[numbers[c]];
                java.util.Arrays.fill(args, v);
                Edge.refuses(Edge::busy, Edge.BAD, calls[c], args);
                Edge.refuses(DoorSold::new, calls[c].equals("chase") ? Edge.STATE : Edge.BAD, calls[c], args);
            }
        }
        for (String name : new String[] {"road", "stay", "faces"}) Edge.refuses(DoorSold::new, Edge.STATE, name);
    }

    private static void findings() {
        Edge.of(Edge.TERMS, "1 NOTHING (a ROW, a TEXT, a kept COUNTRY that is missing)");
        Edge.finds(Edge::busy, 1, "tear", 0);
        Edge.finds(Edge::busy, 1, "fault", 1);
        Edge.finds(Edge::busy, 1, "on", 1);
        Edge.of(Edge.TERMS, "2 BEYOND (a place of a ROW, a TEXT that there is not)");
        Edge.finds(Edge::busy, 2, "at", 1, 3);
        Edge.finds(Edge::busy, 2, "put", 2, 3, 0);
        Edge.of(Edge.TERMS, "3 UNLIKE (a DOOR of another KIND; a number that is none)");
        Edge.finds(Edge::busy, 3, "mark", 0, 1);
        Edge.finds(Edge::busy, 3, "kinds", 0, 1);
        Edge.of(Edge.TERMS, "4 NOUGHT (shared among none)");
        Edge.finds(Edge::busy, 4, "mean", 4);
        Edge.of(Edge.TERMS, "5 SIZE (fewer than none; not as many as due)");
        Edge.finds(Edge::busy, 5, "text", 2, -1);
        Edge.finds(() -> withRow(4), 5, "fits", 0, 0);
    }

    private static DoorSold withRow(int n) {
        DoorSold x = Edge.busy();
        x.row(0, n);
        return x;
    }

    private static void fractions() {
        Edge.of(Edge.TERMS, "in lowest terms, the lower number above 0 (0 by 1)");
        DoorSold x = Due.owning("n700 d050 d050", 2);
        Edge.tells(x, 0, 1, "odds", 5, 0, 6);
        Edge.tells(x, 0, 1, "mid", 0, 6);
        Edge.tells(x, 1, 1, "odds", 0, 0, 6);
        Edge.tells(x, 3, 4, "odds", 5, 1, 6);
        Edge.tells(x, 8, 9, "odds", 5, 1, 4);
        Edge.tells(x, 143, 144, "odds", 5, 1, 1);
        Edge.tells(x, 9, 2, "mid", 5, 6);
        Edge.tells(x, 15, 1, "mid", 5, 12);
        Edge.tells(Due.in("n200d000"), 3, 1, "mid", 1, 6);
    }

    private static void sizes() {
        Edge.of(Edge.TERMS, "ROWS 0 .. 5 are rows of 0 to 40 ints");
        Edge.bounds(Edge::busy, 0, 0, 5, "row", 0, 1);
        for (int n : new int[] {0, 40}) Edge.due(Edge.busy(), n, "row", 5, n);
        Edge.refuses(Edge::busy, Edge.BAD, "row", 5, 41);
        Edge.of(Edge.TERMS, "TEXTS 0 .. 3 rows of 0 to 60 bytes");
        Edge.bounds(Edge::busy, 0, 0, 3, "text", 0, 1);
        for (int n : new int[] {0, 60}) Edge.due(Edge.busy(), n, "text", 3, n);
        Edge.refuses(Edge::busy, Edge.BAD, "text", 3, 61);
        Edge.of(Edge.TERMS, "or missing (at first)");
        for (int r = 0; r < 6; r++) Edge.finds(DoorSold::new, Edge.NOTHING, "tear", r);
        for (int t = 0; t < 4; t++) Edge.finds(DoorSold::new, Edge.NOTHING, "fault", t);
        Edge.of(Edge.TERMS, "A COUNTRY (without PLACES, DOORS at first)");
        Edge.due(new DoorSold(), 0, "count", 0);
        Edge.due(new DoorSold(), 0, "count", 1);
    }

    private static void dueFault(String signs, int want) {
        DoorSold x = new DoorSold();
        Due.write(x, 0, signs);
        Edge.due(x, want, "fault", 0);
        int doors = signs.replaceAll("[^dubksc]", "").length();
        Edge.due(x, want == Edge.NONE ? doors : Edge.STATE, "country", 0);
    }

    private static void blanks() {
        Edge.of(Edge.TERMS, "blanks (32) ahead, between, behind as many as wanted");
        dueFault("n200d000", Edge.NONE);
        dueFault(" n200 d000 u000 ", Edge.NONE);
        dueFault("   n200   d000   u000   ", Edge.NONE);
        dueFault(" ".repeat(52) + "n200d000", Edge.NONE);
        dueFault("n200" + " ".repeat(52) + "d000", Edge.NONE);
        dueFault("n200d000" + " ".repeat(52), Edge.NONE);
        dueFault("\tn200d000", 0);
        dueFault("n200" + (char) 0 + "d000", 4);
        dueFault("n200d000\n", 8);
        Edge.of(Edge.TERMS, "none within items");
        for (int i = 1; i < 4; i++) {
            dueFault("n200".substring(0, i) + " " + "n200".substring(i) + "d000", i);
            dueFault("n200" + "d000".substring(0, i) + " " + "d000".substring(i), 4 + i);
        }
    }

    private static void head() {
        Edge.of(Edge.TERMS, "The first item is n (110), how many PLACES (2 .. 7, one figure; 0, 1, .., in a ring)");
        for (int n = 0; n <= 9; n++) dueFault("n" + n + "00d000", n >= 2 && n <= 7 ? Edge.NONE : 1);
        dueFault("n/00d000", 1);
        dueFault("n:00d000", 1);
        dueFault("d000", 0);
        dueFault("m200d000", 0);
        dueFault("o200d000", 0);
        Edge.of(Edge.TERMS, "the PURSE (two figures 00 .. 99)");
        for (String purse : new String[] {"00", "09", "10", "90", "99"}) {
            DoorSold x = Due.in("n2" + purse + "d000");
            Edge.due(x, Integer.parseInt(purse), "count", 4);
        }
        dueFault("n2/0d000", 2);
        dueFault("n2:0d000", 2);
        dueFault("n20/d000", 3);
        dueFault("n20:d000", 3);
        dueFault("n20d000", 3);
        dueFault("n2000d000", 4);
    }

    private static void doors() {
        Edge.of(Edge.TERMS, "Then DOORS (1 to 6; 0, 1, .. as they come)");
        dueFault("n200", 4);
        dueFault("n200d000", Edge.NONE);
        dueFault("n200d000u001b002k003s004c005", Edge.NONE);
        DoorSold x = Due.in("n200c005s004k003b002u001d000");
        for (int i = 0; i < 6; i++) Edge.told(x, 1, 5 - i, "door", i, 0);
        Edge.of(Edge.TERMS, "AT (a PLACE, one figure), the PLACE to which it LEADS (one figure)");
        for (int n = 2; n <= 7; n++) {
            dueFault("n" + n + "00d" + (n - 1) + (n - 1) + "0", Edge.NONE);
            dueFault("n" + n + "00d" + n + "00", 5);
            dueFault("n" + n + "00d0" + n + "0", 6);
        }
        dueFault("n200d/00", 5);
        dueFault("n200d0/0", 6);
        dueFault("n700d:00", 5);
        dueFault("n700d0:0", 6);
        Edge.of(Edge.TERMS, "its PRICE as told (0 .. 9, one figure)");
        for (int price = 0; price <= 9; price++) Edge.told(Due.in("n200d00" + price), 1, price, "door", 0, 3);
        dueFault("n200d00/", 7);
        dueFault("n200d00:", 7);
        dueFault("n200d0000", 8);
    }

    private static void faults() {
        Edge.of(Edge.TERMS, "(a letter, a figure that is none such, a PLACE that there is not, a seventh DOOR: its "
            + "place;");
        for (char letter = 'a'; letter <= 'z'; letter++) {
            dueFault("n200d000" + letter + "000", "dubksc".indexOf(letter) >= 0 ? Edge.NONE : 8);
        }
        for (int i = 0; i < 8; i++) dueFault("n200d000".substring(0, i) + "x" + "n200d000".substring(i + 1), i);
        for (int i = 0; i < 8; i++) dueFault("n200d000".substring(0, i) + (char) 200 + "n200d000".substring(i + 1), i);
        dueFault("n700d000d700", 9);
        dueFault("n700d000d070", 10);
        String six = "n200d000d000d000d000d000d000";
        dueFault(six, Edge.NONE);
        dueFault(six + "d000", 28);
        dueFault(six + "d", 28);
        dueFault(six + "x", 28);
        dueFault(six + "    d000", 32);
        dueFault("N200d000", 0);
        dueFault("n200D000", 4);
    }

    private static void faultsAtTheEnd() {
        Edge.of(Edge.TERMS, "the TEXT's size, if its end comes too early");
        for (int n = 1; n < 8; n++) {
            if (n != 4) dueFault("n200d000".substring(0, n), n);
            if (n != 4) dueFault(" ".repeat(60 - n) + "n200d000".substring(0, n), 60);
        }
        for (int n = 9; n < 12; n++) dueFault("n200d000d000".substring(0, n), n);
        shorterThanBefore();
        Edge.of(Edge.TERMS, "or there is no DOOR");
        dueFault("n200", 4);
        dueFault("n200 ", 5);
        dueFault("n200" + " ".repeat(56), 60);
        Edge.of(Edge.TERMS, "or there are blanks alone).");
        for (int n : new int[] {0, 1, 2, 59, 60}) dueFault(" ".repeat(n), n);
    }

    /** What a TEXT had behind its end before is no part of it. */
    private static void shorterThanBefore() {
        DoorSold x = new DoorSold();
        for (int n = 7; n >= 0; n--) {
            Due.write(x, 0, "n200d000");
            Due.write(x, 0, "n200d000".substring(0, n));
            Edge.due(x, n, "fault", 0);
        }
    }

    private static void kindsByTheHour() {
        Edge.of(Edge.TERMS, "of a CART at the PLACE that is h further on than AT (round the ring)");
        for (int h = 0; h <= 8; h++) {
            Edge.told(Edge.after(h, "n300c200"), 1, (2 + h) % 3, "door", 0, 4);
            Edge.told(Edge.after(h, "n200c100"), 1, (1 + h) % 2, "door", 0, 4);
        }
        Edge.told(Edge.after(40, "n700c600"), 1, 4, "door", 0, 4);
        Edge.of(Edge.TERMS, "a DUTCH one (CART, too) in HOURS of an even number; a BRICKED one in HOURS that 3 "
            + "divides.");
        for (int h = 0; h <= 7; h++) {
            DoorSold x = Edge.after(h, "n200u000c000k000");
            for (int i = 0; i < 2; i++) Edge.told(x, 1, h % 2 == 0 ? 1 : 0, "door", i, 5);
            Edge.told(x, 1, h % 3 == 0 ? 1 : 0, "door", 2, 5);
        }
    }

    private static void hours() {
        Edge.of(Edge.TERMS, "It takes 1 HOUR; of a DUTCH one 2; of a CART 1 less than of a DUTCH one; of a STUDY 2 "
            + "more than of a BACK one.");
        int[] hours = {1, 2, 1, 1, 3, 1};
        String[] doors = {"d010", "u010", "b100", "k010", "s100", "c010"};
        for (int kind = 0; kind < 6; kind++) {
            DoorSold x = Due.owning("n203" + doors[kind], 1);
            Edge.told(x, 1, hours[kind], "door", 0, 6);
            Edge.due(x, 1, "go", 0);
            Edge.due(x, hours[kind], "count", 3);
        }
    }

    private static void costs() {
        Edge.of(Edge.TERMS, "of a BACK one half of it (cut); of a STUDY 3 more than of a BACK one; of a BRICKED one "
            + "1.");
        for (int price = 0; price <= 9; price++) {
            DoorSold x = Due.in("n200b00" + price + "s00" + price + "k00" + price);
            Edge.told(x, 1, price / 2, "door", 0, 3);
            Edge.told(x, 1, price / 2 + 3, "door", 1, 3);
            Edge.told(x, 1, 1, "door", 2, 3);
        }
        Edge.of(Edge.TERMS, "sold (for half of what it COSTS, cut)");
        String[] countries = {"n201k009", "n203s000", "n204s002", "n203b007", "n209d009", "n201u001"};
        int[] got = {0, 1, 2, 1, 4, 0};
        for (int c = 0; c < countries.length; c++) Edge.due(Due.owning(countries[c], 1), got[c], "sell", 0);
    }

    private static void roads() {
        Edge.of(Edge.TERMS, "One is in PLACE 0 in HOUR 0 at first, no DOOR is BOUGHT.");
        for (int what : new int[] {2, 3, 6}) Edge.due(Due.in("n799d000"), 0, "count", what);
        Edge.of(Edge.TERMS, "By the ROAD one comes to the next PLACE (from the last one to 0) in 3 HOURS");
        for (int n = 2; n <= 7; n++) {
            DoorSold x = Due.in("n" + n + "00d000");
            for (int r = 1; r <= n + 1; r++) {
                Edge.due(x, r % n, "road");
                Edge.due(x, 3 * r, "count", 3);
            }
        }
        Edge.of(Edge.TERMS, "where one goes IN, while it is OPEN as one does.");
        DoorSold x = Due.owning("n200u010", 1);
        Edge.due(x, 1, "go", 0);
        Edge.due(x, 2, "count", 3);
        Edge.refuses(() -> Edge.withDeeds(2, "n200u010", 1), Edge.STATE, "go", 0);
        Edge.due(Edge.withDeeds(3, "n200u010", 1), 1, "go", 0);
    }

    private static void deeds() {
        Edge.of(Edge.TERMS, "These are DEEDS (40 at most).");
        DoorSold x = Due.in("n399d100d000");
        String[] kinds = {"buy", "set", "go", "road", "stay", "sell"};
        for (int d = 0; d < 40; d++) {
            int[] args = d % 6 == 3 || d % 6 == 4 ? new int[0] : new int[] {0};
            Edge.due(x, d, "count", 5);
            if (Due.answer(x, kinds[d % 6], args) < 0) x.stay();
        }
        Edge.due(x, 40, "count", 5);
        Edge.due(x, Edge.FULL, "stay");
        Edge.due(x, 40, "count", 5);
        Edge.of(Edge.TERMS, "---- 2 deeds (STATE: no DOORS, where no DOOR is told).");
        Edge.refuses(DoorSold::new, Edge.STATE, "road");
        Edge.refuses(DoorSold::new, Edge.STATE, "stay");
        Edge.refuses(DoorSold::new, Edge.STATE, "keep", 0);
        for (String name : new String[] {"go", "buy", "sell", "set"}) Edge.refuses(DoorSold::new, Edge.BAD, name, 0);
    }

    private static void steps() {
        Edge.of(Edge.TERMS, "STEPS are told by numbers: 0 .. 5 DOORS, 6 the ROAD, 7 WAITING.");
        DoorSold x = Edge.withDeeds(7, "n700 d560 d110 d110 d110 d110 u050", 6);
        int[] steps = {7, 5, 0};
        Edge.due(x, 3, "way", 6, 0);
        for (int k = 0; k < 3; k++) Edge.told(x, 1, steps[k], "at", 0, k);
        Edge.due(x, 1, "way", 1, 0);
        Edge.told(x, 1, 6, "at", 0, 0);
    }

    private static void waysAside() {
        Edge.of(Edge.TERMS, "---- 3 ways (aside, from now on, by DOORS that are BOUGHT).");
        Edge.keepsAll(Edge::busy, 2, "where", 0);
        DoorSold x = Edge.busy();
        long before = x.digest();
        Edge.told(x, 0, 1, "soonest", 1);
        Edge.due(x, before, "digest");
        Edge.due(Due.in("n700d050"), 1, "where", 1);
        Edge.due(Due.owning("n700d050", 1), 33, "where", 1);
        for (int h = 0; h <= 5; h++) {
            int bricked = h % 3 == 0 ? 0 : 3 - h % 3;
            Edge.due(Edge.withDeeds(1 + h, "n701k050", 1), 1 + bricked, "soonest", 5);
            Edge.due(Edge.withDeeds(1 + h, "n700u050", 1), 2 + h % 2, "soonest", 5);
        }
        Edge.due(Due.owning("n700c250", 1), 7, "soonest", 5);
        Edge.due(Edge.withDeeds(7, "n700c250", 1), 7, "soonest", 5);
        Edge.due(Edge.withDeeds(13, "n700c250", 1), 1, "soonest", 5);
    }

    private static void calls() {
        Edge.of(Edge.TERMS, "---- 4 what to buy, what to shut (n 0 .. 30 HOURS).");
        Edge.bounds(Edge::busy, 1, 0, 30, "cheapest", 2, 0);
        Edge.bounds(Edge::busy, 1, 0, 30, "shut", 2, 0);
        Edge.of(Edge.TERMS, "An object is used for at most 512 calls after it has been made;");
        DoorSold x = new DoorSold();
        x.row(0, 1);
        for (int call = 2; call <= 512; call++) Edge.due(x, 1, "lay", 0, 0, call);
        DoorSold y = new DoorSold();
        for (int call = 1; call < 512; call++) y.tear(0);
        Edge.due(y, 511, "findings", 1);
    }
}
