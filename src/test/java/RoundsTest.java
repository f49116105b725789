/** Promises 31 to 33: round, faces, chase. */
public final class RoundsTest {
    public static void main(String[] args) {
        round();
        roundByTheHour();
        roundRefused();
        faces();
        facesByTheHour();
        chaseInTwoPlaces();
        chaseWhereAllIsNear();
        chaseInMoreTurns();
        chaseByTheHour();
        chaseRefused();
        Due.end();
    }

    private static void round() {
        DoorSold x = Due.in("n700 d129 u239 k319 s049 d669");
        Due.told(x, "round(1): 1, 2, 3", x.round(1), 3, 1);
        Due.told(x, "round(2): 2, 3, 1", x.round(2), 3, 2);
        Due.told(x, "round(3): 3, 1, 2", x.round(3), 3, 3);
        Due.told(x, "round(6): 6", x.round(6), 1, 6);
        Due.told(x, "round(0): none there, asked() stays", x.round(0), DoorSold.NONE, 6);
        Due.told(x, "round(4): IN a STUDY, none behind", x.round(4), DoorSold.NONE, 6);
        x = Due.in("n700 d019 d129 d239 d319 d149");
        Due.told(x, "round(0): 0, then 1, 2, 3; the first DOOR", x.round(0), 3, 1);
        x = Due.in("n700 d019 d149 d129 d239 d319");
        Due.told(x, "round(0): another first DOOR", x.round(0), DoorSold.NONE, 0);
        x = Due.in("n600 d019 d129 d239 d349 d459 d509");
        Due.told(x, "round(4): all PLACES", x.round(4), 6, 4);
        x = Due.in("n700 d019 d129 d239 d349 d459 d569");
        Due.told(x, "round(0): all PLACES, no round", x.round(0), DoorSold.NONE, 0);
    }

    private static void roundByTheHour() {
        DoorSold x = Due.in("n300 c019 d109");
        Due.told(x, "round(0) in HOUR 0", x.round(0), 2, 0);
        x.stay();
        Due.told(x, "round(0) in HOUR 1", x.round(0), DoorSold.NONE, 0);
        Due.told(x, "round(1) in HOUR 1, as if it was OPEN", x.round(1), 1, 1);
        x.stay();
        Due.told(x, "round(2) in HOUR 2", x.round(2), DoorSold.NONE, 1);
    }

    private static void roundRefused() {
        DoorSold x = new DoorSold();
        Due.due("round(0) without DOORS", x.round(0), DoorSold.BAD);
        Due.enter(x, "n300d000");
        Due.due("round(3)", x.round(3), DoorSold.BAD);
        Due.due("round(-1)", x.round(-1), DoorSold.BAD);
    }

    private static void faces() {
        DoorSold x = new DoorSold();
        x.row(0, 1);
        x.lay(0, 0, 3);
        x.at(0, 0);
        Due.told(x, "faces() without DOORS", x.faces(), DoorSold.STATE, 3);
        Due.enter(x, "n700d019d129");
        Due.told(x, "faces() of none", x.faces(), 0, DoorSold.NONE);
        Due.enter(x, "n700d019d129u219b129");
        Due.told(x, "faces() of 1 and 2, 1 and 3", x.faces(), 2, 12);
        Due.enter(x, "n700 d000 d000 d000 d110 d000 d000");
        Due.told(x, "faces() of five", x.faces(), 10, 1);
        Due.enter(x, "n700 d560 d010 s329 k239 d439 d340");
        Due.told(x, "faces() of the last two", x.faces(), 1, 45);
        Due.enter(x, "n700 s329 b329 b239 s239");
        Due.told(x, "faces() of BACK ones", x.faces(), 4, 2);
        Due.enter(x, "n700 d110");
        Due.told(x, "faces() of one with itself", x.faces(), 0, DoorSold.NONE);
    }

    private static void facesByTheHour() {
        DoorSold x = Due.in("n300 c019 d129 d109");
        Due.told(x, "faces() in HOUR 0", x.faces(), 1, 2);
        x.stay();
        Due.told(x, "faces() in HOUR 1", x.faces(), 0, DoorSold.NONE);
        x.stay();
        Due.told(x, "faces() in HOUR 2", x.faces(), 1, 1);
    }

    private static void chaseInTwoPlaces() {
        DoorSold x = Due.in("n200d000");
        for (int n = 0; n <= 6; n++) {
            Due.due("chase(0, 0, " + n + ")", x.chase(0, 0, n), 0);
            Due.due("chase(0, 1, " + n + ")", x.chase(0, 1, n), n < 2 ? DoorSold.NONE : 2);
            Due.due("chase(1, 0, " + n + ")", x.chase(1, 0, n), n < 2 ? DoorSold.NONE : 2);
        }
    }

    private static void chaseWhereAllIsNear() {
        DoorSold x = Due.in("n300 d029 d109 b129");
        for (int s = 0; s < 3; s++) {
            for (int c = 0; c < 3; c++) {
                Due.due("chase(" + s + ", " + c + ", 6)", x.chase(s, c, 6), s == c ? 0 : 2);
                Due.due("chase(" + s + ", " + c + ", 1)", x.chase(s, c, 1), s == c ? 0 : DoorSold.NONE);
            }
        }
        x = Due.in("n300 d000");
        for (int s = 0; s < 3; s++) {
            Due.due("chase round the ring", x.chase(s, (s + 1) % 3, 6), DoorSold.NONE);
            Due.due("chase round the ring", x.chase(s, (s + 2) % 3, 6), DoorSold.NONE);
        }
    }

    /** From 1 and 2 one can come anywhere, from 0 only to 1: the collector goes to 1 first, then wherever he is. */
    private static void chaseInMoreTurns() {
        DoorSold x = Due.in("n300 d210 d100");
        int[][] want = {{0, 2, 2}, {4, 0, 2}, {4, 2, 0}};
        for (int s = 0; s < 3; s++) {
            for (int c = 0; c < 3; c++) {
                for (int n = 0; n <= 6; n++) {
                    int due = n < want[s][c] ? DoorSold.NONE : want[s][c];
                    Due.due("chase(" + s + ", " + c + ", " + n + ")", x.chase(s, c, n), due);
                }
            }
        }
        x = Due.in("n400 d110 d020 d010 d200 d010");
        Due.due("chase(0, 1, 6)", x.chase(0, 1, 6), 6);
        Due.due("chase(0, 1, 5)", x.chase(0, 1, 5), DoorSold.NONE);
        Due.due("chase(0, 2, 6)", x.chase(0, 2, 6), 4);
    }

    private static void chaseByTheHour() {
        DoorSold x = Due.in("n300 d029 d109 c219");
        Due.due("chase(0, 2, 2) in HOUR 0", x.chase(0, 2, 2), 2);
        x.stay();
        Due.due("chase(0, 2, 2) in HOUR 1", x.chase(0, 2, 2), DoorSold.NONE);
        x.stay();
        x.stay();
        Due.due("chase(0, 2, 2) in HOUR 3, as if it was OPEN", x.chase(0, 2, 2), 2);
    }

    private static void chaseRefused() {
        DoorSold x = new DoorSold();
        Due.due("chase(0, 0, 0) without DOORS", x.chase(0, 0, 0), DoorSold.STATE);
        Due.due("chase(-1, 9, 7): STATE ahead of BAD", x.chase(-1, 9, 7), DoorSold.STATE);
        Due.enter(x, "n300d000");
        Due.due("chase(3, 0, 0)", x.chase(3, 0, 0), DoorSold.BAD);
        Due.due("chase(-1, 0, 0)", x.chase(-1, 0, 0), DoorSold.BAD);
        Due.due("chase(0, 3, 0)", x.chase(0, 3, 0), DoorSold.BAD);
        Due.due("chase(0, -1, 0)", x.chase(0, -1, 0), DoorSold.BAD);
        Due.due("chase(0, 0, 7)", x.chase(0, 0, 7), DoorSold.BAD);
        Due.due("chase(0, 0, -1)", x.chase(0, 0, -1), DoorSold.BAD);
    }
}
