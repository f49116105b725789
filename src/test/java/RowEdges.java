/** Boundary cases of the promises 1 to 9: a new object, ROWS, TEXTS. */
final class RowEdges {
    private RowEdges() {
    }

    static void all() {
        aNewObject();
        row();
        lay();
        at();
        tear();
        copyWithin();
        copyRefused();
        mean();
        text();
        put();
    }

    /** ROW 0 has its most ints (0, 1, .. 39), ROW 1 three (7, 8, 9), ROW 2 none; the others are missing. */
    private static DoorSold rows() {
        DoorSold x = new DoorSold();
        x.row(0, 40);
        for (int i = 0; i < 40; i++) x.lay(0, i, i);
        Due.lay(x, 1, 7, 8, 9);
        x.row(2, 0);
        return x;
    }

    /** TEXT 0 has its most bytes, TEXT 1 one (65), TEXT 2 none; TEXT 3 is missing. */
    private static DoorSold texts() {
        DoorSold x = new DoorSold();
        x.text(0, 60);
        Due.write(x, 1, "A");
        x.text(2, 0);
        return x;
    }

    private static void dueInts(DoorSold x, int r, int... ints) {
        for (int i = 0; i < ints.length; i++) Edge.told(x, 1, ints[i], "at", r, i);
        Edge.due(x, Edge.FINDING, "at", r, ints.length);
    }

    private static void aNewObject() {
        Edge.of(1, "No ROWS, TEXTS, PLACES, DOORS.");
        for (int what : new int[] {8, 9, 1, 0}) Edge.due(new DoorSold(), 0, "count", what);
        for (int r = 0; r < 6; r++) Edge.finds(DoorSold::new, Edge.NOTHING, "at", r, 0);
        for (int t = 0; t < 4; t++) Edge.finds(DoorSold::new, Edge.NOTHING, "put", t, 0, 32);
        Edge.refuses(DoorSold::new, Edge.BAD, "soonest", 0);
        Edge.refuses(DoorSold::new, Edge.BAD, "door", 0, 0);
    }

    private static void row() {
        Edge.of(2, "A ROW is there with n ints 0: n.");
        for (int r : new int[] {0, 1, 5}) {
            for (int n : new int[] {0, 1, 40}) {
                DoorSold x = rows();
                Edge.due(x, n, "row", r, n);
                dueInts(x, r, new int[n]);
            }
        }
        Edge.of(2, "BAD: also n above 40;");
        Edge.bounds(RowEdges::rows, 0, 0, 5, "row", 0, 2);
        for (int n : new int[] {41, 42, Edge.MOST}) {
            Edge.refuses(RowEdges::rows, Edge.BAD, "row", 1, n);
            Edge.refuses(RowEdges::rows, Edge.BAD, "row", 5, n);
        }
        Edge.of(2, "SIZE: below 0.");
        for (int n : new int[] {-1, -41, Edge.LEAST}) {
            Edge.finds(RowEdges::rows, Edge.SIZE, "row", 1, n);
            Edge.finds(RowEdges::rows, Edge.SIZE, "row", 5, n);
            Edge.refuses(RowEdges::rows, Edge.BAD, "row", 6, n);
        }
    }

    private static void lay() {
        Edge.of(3, "Place i of a ROW is v: what it was, told by asked(): 1.");
        DoorSold x = rows();
        Edge.told(x, 1, 0, "lay", 0, 0, Edge.LEAST);
        Edge.told(x, 1, 39, "lay", 0, 39, Edge.MOST);
        Edge.told(x, 1, Edge.LEAST, "lay", 0, 0, -1);
        Edge.told(x, 1, Edge.MOST, "lay", 0, 39, 0);
        Edge.told(x, 1, -1, "at", 0, 0);
        Edge.told(x, 1, 1, "at", 0, 1);
        Edge.told(x, 1, 38, "at", 0, 38);
        Edge.told(x, 1, 0, "at", 0, 39);
        placesRefused(3, "lay", new int[] {0, 0, 77});
    }

    private static void at() {
        Edge.of(4, "Place i of a ROW, told by asked(): 1.");
        DoorSold x = rows();
        Edge.told(x, 1, 0, "at", 0, 0);
        Edge.told(x, 1, 39, "at", 0, 39);
        Edge.told(x, 1, 9, "at", 1, 2);
        Edge.told(x, 1, 7, "at", 1, 0);
        placesRefused(4, "at", new int[] {0, 0});
    }

    /** What lay() and at() refuse alike; their first two numbers are the ROW and the place. */
    private static void placesRefused(int promise, String name, int[] args) {
        Edge.of(promise, "BAD;");
        Edge.bounds(RowEdges::rows, 0, 0, 5, name, args);
        args[1] = 99;
        Edge.bounds(RowEdges::rows, 0, 0, 5, name, args);
        Edge.of(promise, "NOTHING;");
        for (int r = 3; r <= 5; r++) {
            for (int i : new int[] {Edge.LEAST, -1, 0, 40, Edge.MOST}) found(Edge.NOTHING, name, args, r, i);
        }
        Edge.of(promise, "BEYOND.");
        for (int i : new int[] {Edge.LEAST, -1, 40, 41, Edge.MOST}) found(Edge.BEYOND, name, args, 0, i);
        for (int i : new int[] {-1, 3, 39}) found(Edge.BEYOND, name, args, 1, i);
        for (int i : new int[] {-1, 0, 1}) found(Edge.BEYOND, name, args, 2, i);
    }

    private static void found(int finding, String name, int[] args, int r, int i) {
        int[] with = args.clone();
        with[0] = r;
        with[1] = i;
        Edge.finds(RowEdges::rows, finding, name, with);
    }

    private static void tear() {
        Edge.of(5, "A ROW is missing: 1.");
        for (int r = 0; r <= 2; r++) {
            DoorSold x = rows();
            Edge.due(x, 1, "tear", r);
            Edge.due(x, 2, "count", 8);
            Edge.due(x, Edge.FINDING, "at", r, 0);
            Edge.due(x, Edge.NOTHING, "finding");
        }
        Edge.of(5, "BAD;");
        Edge.bounds(RowEdges::rows, 0, 0, 5, "tear", 0);
        Edge.of(5, "NOTHING.");
        for (int r = 3; r <= 5; r++) Edge.finds(RowEdges::rows, Edge.NOTHING, "tear", r);
        Edge.finds(RowEdges::torn, Edge.NOTHING, "tear", 0);
    }

    private static DoorSold torn() {
        DoorSold x = rows();
        x.tear(0);
        return x;
    }

    private static void copyWithin() {
        Edge.of(6, "(perhaps itself)");
        DoorSold x = rows();
        Edge.due(x, 1, "copy", 1, 0, 1, 0, 3);
        dueInts(x, 1, 7, 8, 9);
        Edge.due(x, 1, "copy", 1, 2, 1, 0, 1);
        dueInts(x, 1, 9, 8, 9);
        Edge.of(6, "as if taken ahead: 1.");
        x = rows();
        Edge.due(x, 1, "copy", 1, 0, 1, 1, 2);
        dueInts(x, 1, 7, 7, 8);
        x = rows();
        Edge.due(x, 1, "copy", 1, 1, 1, 0, 2);
        dueInts(x, 1, 8, 9, 9);
        x = rows();
        Edge.due(x, 1, "copy", 0, 0, 0, 1, 39);
        for (int i = 0; i < 40; i++) Edge.told(x, 1, Math.max(0, i - 1), "at", 0, i);
        x = rows();
        Edge.due(x, 1, "copy", 0, 1, 0, 0, 39);
        for (int i = 0; i < 40; i++) Edge.told(x, 1, Math.min(39, i + 1), "at", 0, i);
    }

    private static void copyRefused() {
        Edge.of(6, "BAD;");
        Edge.bounds(RowEdges::rows, 0, 0, 5, "copy", 0, 0, 1, 0, 1);
        Edge.bounds(RowEdges::rows, 2, 0, 5, "copy", 0, 0, 1, 0, 1);
        Edge.refuses(RowEdges::rows, Edge.BAD, "copy", 0, 99, 6, 99, -1);
        Edge.of(6, "SIZE: n below 0;");
        for (int n : new int[] {-1, Edge.LEAST}) {
            Edge.finds(RowEdges::rows, Edge.SIZE, "copy", 0, 0, 1, 0, n);
            Edge.finds(RowEdges::rows, Edge.SIZE, "copy", 3, 0, 4, 0, n);
            Edge.finds(RowEdges::rows, Edge.SIZE, "copy", 0, -1, 1, 99, n);
        }
        Edge.of(6, "NOTHING: either;");
        for (int n : new int[] {0, 1, 41, Edge.MOST}) {
            Edge.finds(RowEdges::rows, Edge.NOTHING, "copy", 3, 0, 0, 0, n);
            Edge.finds(RowEdges::rows, Edge.NOTHING, "copy", 0, 0, 3, 0, n);
            Edge.finds(RowEdges::rows, Edge.NOTHING, "copy", 3, 0, 3, 0, n);
        }
        Edge.finds(RowEdges::rows, Edge.NOTHING, "copy", 0, 99, 3, -1, 1);
        Edge.of(6, "BEYOND: not so many there.");
        int[][] beyond = {{0, 38, 1, 0, 3}, {0, 0, 1, 1, 3}, {0, 0, 1, 0, 4}, {1, 0, 0, 38, 3}, {1, 1, 0, 0, 3},
            {0, -1, 1, 0, 1}, {0, 0, 1, -1, 1}, {0, -1, 1, 0, 0}, {0, 0, 1, -1, 0}, {0, 41, 1, 0, 0}, {0, 0, 1, 4, 0},
            {2, 0, 1, 0, 1}, {1, 0, 2, 0, 1}, {0, 0, 0, 0, 41}, {0, 0, 0, 0, Edge.MOST}, {0, 1, 0, 1, Edge.MOST},
            {0, Edge.MOST, 1, 0, 1}, {0, 0, 1, Edge.MOST, 1}, {0, Edge.MOST, 1, Edge.MOST, Edge.MOST},
            {0, Edge.LEAST, 1, 0, 1}, {0, 0, 1, Edge.LEAST, 1}, {0, Edge.LEAST, 1, 0, Edge.MOST}};
        for (int[] args : beyond) Edge.finds(RowEdges::rows, Edge.BEYOND, "copy", args);
        int[][] there = {{0, 37, 1, 0, 3}, {1, 0, 0, 37, 3}, {0, 0, 0, 0, 40}, {0, 40, 1, 3, 0}, {2, 0, 2, 0, 0}};
        for (int[] args : there) Edge.due(rows(), 1, "copy", args);
    }

    private static void dueMean(int want, int... ints) {
        DoorSold x = rows();
        Due.lay(x, 3, ints);
        Edge.told(x, 1, want, "mean", 3);
    }

    private static int[] forty(int of, int last) {
        int[] ints = new int[40];
        java.util.Arrays.fill(ints, of);
        ints[39] = last;
        return ints;
    }

    private static void mean() {
        Edge.of(7, "The mean of a ROW's ints, cut, told by asked(): 1.");
        dueMean(5, 5);
        dueMean(3, 3, 4);
        dueMean(-3, -3, -4);
        dueMean(0, 0, -1);
        dueMean(0, 0, 0, 2);
        dueMean(0, 0, 0, -2);
        dueMean(1, 0, 0, 3);
        dueMean(0, Edge.LEAST, Edge.MOST);
        dueMean(0, forty(0, 39));
        dueMean(1, forty(0, 40));
        dueMean(-1, forty(0, -40));
        dueMean(Edge.MOST, forty(Edge.MOST, Edge.MOST));
        dueMean(Edge.MOST - 1, forty(Edge.MOST, Edge.MOST - 1));
        dueMean(Edge.LEAST, forty(Edge.LEAST, Edge.LEAST));
        dueMean(Edge.LEAST + 1, forty(Edge.LEAST, Edge.LEAST + 1));
        Edge.of(7, "BAD;");
        Edge.bounds(RowEdges::rows, 0, 0, 5, "mean", 0);
        Edge.of(7, "NOTHING;");
        for (int r = 3; r <= 5; r++) Edge.finds(RowEdges::rows, Edge.NOTHING, "mean", r);
        Edge.of(7, "NOUGHT.");
        Edge.finds(RowEdges::rows, Edge.NOUGHT, "mean", 2);
    }

    private static void text() {
        Edge.of(8, "A TEXT is there with n blanks: n.");
        for (int t : new int[] {0, 1, 3}) {
            for (int n : new int[] {0, 1, 60}) {
                DoorSold x = texts();
                Edge.due(x, n, "text", t, n);
                for (int i = 0; i < n; i++) Edge.due(x, 1032, "put", t, i, 0);
                Edge.due(x, Edge.FINDING, "put", t, n, 0);
            }
        }
        Edge.of(8, "BAD: also n above 60;");
        Edge.bounds(RowEdges::texts, 0, 0, 3, "text", 0, 2);
        for (int n : new int[] {61, 62, Edge.MOST}) {
            Edge.refuses(RowEdges::texts, Edge.BAD, "text", 1, n);
            Edge.refuses(RowEdges::texts, Edge.BAD, "text", 3, n);
        }
        Edge.of(8, "SIZE: below 0.");
        for (int n : new int[] {-1, -61, Edge.LEAST}) {
            Edge.finds(RowEdges::texts, Edge.SIZE, "text", 1, n);
            Edge.finds(RowEdges::texts, Edge.SIZE, "text", 3, n);
            Edge.refuses(RowEdges::texts, Edge.BAD, "text", 4, n);
        }
    }

    private static void put() {
        Edge.of(9, "Byte i of a TEXT is v, cut to a byte: what it was, and 1000 more.");
        int[] laid = {127, 128, 255, 256, -1, -128, -129, 383, 384, Edge.MOST, Edge.LEAST, 0};
        int[] kept = {127, -128, -1, 0, -1, -128, 127, 127, -128, -1, 0, 0};
        for (int i : new int[] {0, 59}) {
            DoorSold x = texts();
            for (int k = 0; k < laid.length; k++) {
                Edge.due(x, k == 0 ? 1032 : 1000 + kept[k - 1], "put", 0, i, laid[k]);
            }
            Edge.due(x, 1000, "put", 0, i, 32);
        }
        Edge.of(9, "BAD;");
        Edge.bounds(RowEdges::texts, 0, 0, 3, "put", 0, 0, 77);
        Edge.bounds(RowEdges::texts, 0, 0, 3, "put", 0, 99, 77);
        Edge.of(9, "NOTHING;");
        for (int i : new int[] {Edge.LEAST, -1, 0, 60, Edge.MOST}) {
            Edge.finds(RowEdges::texts, Edge.NOTHING, "put", 3, i, 77);
        }
        Edge.of(9, "BEYOND.");
        for (int i : new int[] {Edge.LEAST, -1, 60, 61, Edge.MOST}) {
            Edge.finds(RowEdges::texts, Edge.BEYOND, "put", 0, i, 77);
        }
        for (int i : new int[] {-1, 1, 59}) Edge.finds(RowEdges::texts, Edge.BEYOND, "put", 1, i, 77);
        for (int i : new int[] {-1, 0, 1}) Edge.finds(RowEdges::texts, Edge.BEYOND, "put", 2, i, 77);
    }
}
