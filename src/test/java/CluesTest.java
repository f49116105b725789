/** Promises 29 and 30: fits, kinds. */
public final class CluesTest {
    private static final int NOTHING = 1, UNLIKE = 3, SIZE = 5;

    public static void main(String[] args) {
        withoutClues();
        fits();
        kinds();
        refused(true);
        refused(false);
        Due.end();
    }

    private static void dueFits(DoorSold x, int i, int stand, int lead, int... clues) {
        Due.lay(x, 3, clues);
        Due.told(x, "fits(" + i + ") by " + java.util.Arrays.toString(clues), x.fits(i, 3), stand, lead);
    }

    private static void dueKinds(DoorSold x, int i, int want, int... clues) {
        Due.lay(x, 3, clues);
        int asked = x.asked();
        Due.told(x, "kinds(" + i + ") by " + java.util.Arrays.toString(clues), x.kinds(i, 3), want, asked);
    }

    private static void withoutClues() {
        DoorSold x = Due.in(Due.ALL_KINDS);
        for (int i = 0; i < 6; i++) {
            dueFits(x, i, 63, 63);
            dueKinds(x, i, 63);
        }
    }

    private static void fits() {
        DoorSold x = Due.in(Due.ALL_KINDS);
        dueFits(x, 0, 1, 8, 99, 0, 3);
        dueFits(x, 0, 2, 0, 1, 1, 3);
        dueFits(x, 0, 0, 16, 1, 0, 4);
        dueFits(x, 0, 0, 0, 1, 0, 4, 2, 0, 5);
        dueFits(x, 0, 0, 0, 1, 1, 4);
        dueFits(x, 1, 2, 16, 98, 1, 4);
        dueFits(x, 1, 0, 0, 99, 1, 4);
        dueFits(x, 1, 0, 0, 98, 1, 4, 1, 1, 4);
        dueFits(x, 2, 4, 1, 1, 0, 2);
        dueFits(x, 2, 8, 0, 1, 0, 3);
        dueFits(x, 2, 0, 8, 1, 3, 2);
        dueFits(x, 3, 8, 32, 99, 3, 5);
        dueFits(x, 3, 0, 0, 98, 3, 5);
        dueFits(x, 4, 4, 16, 5, 4, 2);
        dueFits(x, 4, 32, 0, 5, 4, 5);
        dueFits(x, 5, 2, 4, 4, 5, 2);
        dueFits(x, 5, 2, 4, 4, 5, 2, 6, 1, 2, 98, 3, 2);
        dueFits(x, 5, 4, 0, 4, 0, 2);
        dueFits(x, 5, 0, 0, 3, 4, 2);
        dueFits(x, 5, 0, 8, 0, 1, 3);
        x.stay();
        dueFits(x, 5, 2, 4, 4, 5, 2);
        dueFits(x, 1, 2, 16, 98, 1, 4);
        int[] thirteen = new int[39];
        for (int c = 0; c < 39; c += 3) thirteen[c + 2] = 3;
        dueFits(x, 0, 1, 8, thirteen);
        thirteen[38] = 4;
        dueFits(x, 0, 0, 0, thirteen);
    }

    private static void kinds() {
        DoorSold x = Due.in(Due.ALL_KINDS);
        dueKinds(x, 5, 1 + 2 + 8 + 32, 0, 1, 2);
        dueKinds(x, 5, 1 + 2 + 8 + 32, 6, 1, 2);
        dueKinds(x, 5, 1 + 2, 2, 1, 2);
        dueKinds(x, 5, 1 + 8, 3, 1, 2);
        dueKinds(x, 5, 1, 3, 1, 2, 4, 1, 2);
        dueKinds(x, 5, 4 + 16, 1, 2, 1);
        dueKinds(x, 5, 32, 4, 5, 2);
        dueKinds(x, 5, 0, 3, 4, 2);
        dueKinds(x, 5, 0, 0, 1, 2, 0, 2, 1);
        dueKinds(x, 0, 1, 1, 0, 3);
        dueKinds(x, 2, 1, 1, 2, 0);
        dueKinds(Due.in("n300d110"), 0, 1 + 2 + 4 + 8 + 16 + 32, 0, 1, 1);
        dueKinds(Due.in("n300d110"), 0, 1 + 4 + 16, 1, 1, 1);
    }

    private static int call(DoorSold x, boolean fits, int i, int r) {
        return fits ? x.fits(i, r) : x.kinds(i, r);
    }

    private static void refused(boolean fits) {
        String name = fits ? "fits" : "kinds";
        DoorSold x = new DoorSold();
        x.row(0, 0);
        Due.due(name + "(0, 0) without DOORS", call(x, fits, 0, 0), DoorSold.BAD);
        Due.enter(x, "n300d010u120");
        Due.due(name + "(2, 0)", call(x, fits, 2, 0), DoorSold.BAD);
        Due.due(name + "(-1, 0)", call(x, fits, -1, 0), DoorSold.BAD);
        Due.due(name + "(0, 6)", call(x, fits, 0, 6), DoorSold.BAD);
        Due.due(name + "(0, -1)", call(x, fits, 0, -1), DoorSold.BAD);
        Due.finds(x, name + " by a missing ROW", () -> call(x, fits, 0, 1), NOTHING);
        int[][] uneven = {{-1}, {0, 0}, {100, 9, 9, 9}, {0, 0, 1, 0, 0}};
        for (int[] row : uneven) {
            Due.lay(x, 0, row);
            Due.finds(x, name + " not by triples", () -> call(x, fits, 0, 0), SIZE);
        }
        int[][] unlike = {{100, 0, 0}, {-1, 0, 0}, {0, 3, 0}, {0, -1, 0}, {0, 0, 3}, {0, 0, -1}, {1, 2, 2, 0, 0, 7}};
        for (int[] row : unlike) {
            Due.lay(x, 0, row);
            Due.finds(x, name + " by a number that is none", () -> call(x, fits, 0, 0), UNLIKE);
        }
        Due.lay(x, 0, 99, 2, 2);
        Due.due(name + " by the last numbers", call(x, fits, 0, 0), 0);
    }
}
