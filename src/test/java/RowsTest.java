/** Promises 1 to 7: a new object, row, lay, at, tear, copy, mean. */
public final class RowsTest {
    private static final int NOTHING = 1, BEYOND = 2, NOUGHT = 4, SIZE = 5;

    public static void main(String[] args) {
        aNewObject();
        row();
        layAndAt();
        tear();
        copy();
        mean();
        Due.end();
    }

    private static void aNewObject() {
        DoorSold x = new DoorSold();
        for (int what = 0; what <= 10; what++) Due.due("new count(" + what + ")", x.count(what), 0);
        Due.due("new asked()", x.asked(), 0);
        Due.due("new upper()", x.upper(), 0);
        Due.due("new lower()", x.lower(), 1);
        Due.due("new finding()", x.finding(), 0);
        for (int f = 1; f <= 5; f++) Due.due("new findings(" + f + ")", x.findings(f), 0);
        for (int r = 0; r < 6; r++) {
            int missing = r;
            Due.finds(x, "new tear(" + r + ")", () -> x.tear(missing), NOTHING);
        }
        for (int t = 0; t < 4; t++) {
            int missing = t;
            Due.finds(x, "new fault(" + t + ")", () -> x.fault(missing), NOTHING);
        }
    }

    private static void row() {
        DoorSold x = new DoorSold();
        Due.due("row(0, 0)", x.row(0, 0), 0);
        Due.due("row(5, 40)", x.row(5, 40), 40);
        Due.due("count(8)", x.count(8), 2);
        for (int i = 0; i < 40; i++) Due.told(x, "at(5, " + i + ")", x.at(5, i), 1, 0);
        x.lay(5, 3, 7);
        Due.due("row(5, 4) anew", x.row(5, 4), 4);
        Due.dueRow(x, "row(5, 4) anew", 5, 0, 0, 0, 0);
        Due.due("row(5, 41)", x.row(5, 41), DoorSold.BAD);
        Due.due("row(5, MAX)", x.row(5, Integer.MAX_VALUE), DoorSold.BAD);
        Due.due("row(6, 1)", x.row(6, 1), DoorSold.BAD);
        Due.due("row(-1, 1)", x.row(-1, 1), DoorSold.BAD);
        Due.due("row(6, -1): BAD first", x.row(6, -1), DoorSold.BAD);
        Due.finds(x, "row(5, -1)", () -> x.row(5, -1), SIZE);
        Due.finds(x, "row(5, MIN)", () -> x.row(5, Integer.MIN_VALUE), SIZE);
        Due.dueRow(x, "a refused row() changes nothing", 5, 0, 0, 0, 0);
    }

    private static void layAndAt() {
        DoorSold x = new DoorSold();
        x.row(2, 3);
        Due.told(x, "lay(2, 0, 5)", x.lay(2, 0, 5), 1, 0);
        Due.told(x, "lay(2, 0, MIN)", x.lay(2, 0, Integer.MIN_VALUE), 1, 5);
        Due.told(x, "at(2, 0)", x.at(2, 0), 1, Integer.MIN_VALUE);
        Due.told(x, "lay(2, 2, MAX)", x.lay(2, 2, Integer.MAX_VALUE), 1, 0);
        Due.told(x, "at(2, 2)", x.at(2, 2), 1, Integer.MAX_VALUE);
        Due.told(x, "lay(6, ..)", x.lay(6, 0, 1), DoorSold.BAD, Integer.MAX_VALUE);
        Due.due("lay(-1, ..)", x.lay(-1, 0, 1), DoorSold.BAD);
        Due.due("at(6, 0)", x.at(6, 0), DoorSold.BAD);
        Due.due("at(-1, 0)", x.at(-1, 0), DoorSold.BAD);
        Due.finds(x, "lay(1, 9, 1)", () -> x.lay(1, 9, 1), NOTHING);
        Due.finds(x, "at(1, -9)", () -> x.at(1, -9), NOTHING);
        Due.finds(x, "lay(2, 3, 1)", () -> x.lay(2, 3, 1), BEYOND);
        Due.finds(x, "lay(2, -1, 1)", () -> x.lay(2, -1, 1), BEYOND);
        Due.finds(x, "at(2, 3)", () -> x.at(2, 3), BEYOND);
        Due.finds(x, "at(2, MIN)", () -> x.at(2, Integer.MIN_VALUE), BEYOND);
        Due.finds(x, "at(2, MAX)", () -> x.at(2, Integer.MAX_VALUE), BEYOND);
        Due.due("asked() stays", x.asked(), Integer.MAX_VALUE);
    }

    private static void tear() {
        DoorSold x = new DoorSold();
        x.row(3, 2);
        Due.due("tear(3)", x.tear(3), 1);
        Due.due("count(8)", x.count(8), 0);
        Due.finds(x, "tear(3) again", () -> x.tear(3), NOTHING);
        Due.finds(x, "at(3, 0)", () -> x.at(3, 0), NOTHING);
        Due.due("tear(6)", x.tear(6), DoorSold.BAD);
        Due.due("tear(-1)", x.tear(-1), DoorSold.BAD);
        x.row(3, 0);
        Due.due("tear(3) of no ints", x.tear(3), 1);
    }

    private static void copy() {
        DoorSold x = new DoorSold();
        Due.lay(x, 0, 1, 2, 3, 4, 5);
        Due.lay(x, 1, 6, 7, 8);
        Due.due("copy(0, 1, 1, 0, 2)", x.copy(0, 1, 1, 0, 2), 1);
        Due.dueRow(x, "copy(0, 1, 1, 0, 2)", 1, 2, 3, 8);
        Due.due("copy(0, 0, 0, 1, 4)", x.copy(0, 0, 0, 1, 4), 1);
        Due.dueRow(x, "copied onwards as if taken ahead", 0, 1, 1, 2, 3, 4);
        Due.due("copy(0, 1, 0, 0, 4)", x.copy(0, 1, 0, 0, 4), 1);
        Due.dueRow(x, "copied backwards as if taken ahead", 0, 1, 2, 3, 4, 4);
        Due.due("copy(0, 5, 1, 3, 0)", x.copy(0, 5, 1, 3, 0), 1);
        Due.due("copy(6, ..)", x.copy(6, 0, 0, 0, 1), DoorSold.BAD);
        Due.due("copy(.., 6, ..)", x.copy(0, 0, 6, 0, 1), DoorSold.BAD);
        Due.due("copy(-1, .., -1): BAD first", x.copy(-1, 0, 0, 0, -1), DoorSold.BAD);
        Due.finds(x, "copy of -1", () -> x.copy(0, 0, 1, 0, -1), SIZE);
        Due.finds(x, "copy of -1 from a missing one", () -> x.copy(5, 0, 1, 0, -1), SIZE);
        Due.finds(x, "copy from a missing one", () -> x.copy(5, 0, 1, 0, 1), NOTHING);
        Due.finds(x, "copy to a missing one", () -> x.copy(0, 9, 5, 9, 9), NOTHING);
        Due.finds(x, "copy from beyond", () -> x.copy(0, 4, 1, 0, 2), BEYOND);
        Due.finds(x, "copy to beyond", () -> x.copy(0, 0, 1, 2, 2), BEYOND);
        Due.finds(x, "copy from -1", () -> x.copy(0, -1, 1, 0, 1), BEYOND);
        Due.finds(x, "copy to -1", () -> x.copy(0, 0, 1, -1, 1), BEYOND);
        Due.finds(x, "copy of none from beyond", () -> x.copy(0, 6, 1, 0, 0), BEYOND);
        Due.finds(x, "copy of MAX", () -> x.copy(0, 1, 1, 1, Integer.MAX_VALUE), BEYOND);
        Due.finds(x, "copy from MAX", () -> x.copy(0, Integer.MAX_VALUE, 1, 0, 1), BEYOND);
        Due.finds(x, "copy to MIN", () -> x.copy(0, 0, 1, Integer.MIN_VALUE, 1), BEYOND);
        Due.dueRow(x, "a refused copy() changes nothing", 0, 1, 2, 3, 4, 4);
        Due.dueRow(x, "a refused copy() changes nothing", 1, 2, 3, 8);
    }

    private static void mean() {
        DoorSold x = new DoorSold();
        Due.lay(x, 0, 3, 4);
        Due.told(x, "mean of 3, 4", x.mean(0), 1, 3);
        Due.lay(x, 0, -3, -4);
        Due.told(x, "mean of -3, -4", x.mean(0), 1, -3);
        Due.lay(x, 0, Integer.MAX_VALUE, Integer.MAX_VALUE, Integer.MAX_VALUE);
        Due.told(x, "mean of the greatest", x.mean(0), 1, Integer.MAX_VALUE);
        Due.lay(x, 0, Integer.MIN_VALUE, Integer.MIN_VALUE);
        Due.told(x, "mean of the least", x.mean(0), 1, Integer.MIN_VALUE);
        Due.due("mean(6)", x.mean(6), DoorSold.BAD);
        Due.due("mean(-1)", x.mean(-1), DoorSold.BAD);
        Due.finds(x, "mean(1)", () -> x.mean(1), NOTHING);
        x.row(1, 0);
        Due.finds(x, "mean of none", () -> x.mean(1), NOUGHT);
        Due.due("asked() stays", x.asked(), Integer.MIN_VALUE);
    }
}
