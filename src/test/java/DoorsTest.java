/** Promises 12 and 13: door, mark. */
public final class DoorsTest {
    private static final int UNLIKE = 3;

    public static void main(String[] args) {
        facts();
        factsByHours();
        costs();
        doorRefused();
        marksOfDutchOnes();
        marksOfBackOnes();
        marksOfBrickedOnes();
        marksOfStudies();
        marksOfCarts();
        markRefused();
        Due.end();
    }

    private static void dueFacts(DoorSold x, int i, int... want) {
        for (int what = 0; what < want.length; what++) {
            Due.told(x, "door(" + i + ", " + what + ")", x.door(i, what), 1, want[what]);
        }
    }

    private static void facts() {
        DoorSold x = Due.in(Due.ALL_KINDS);
        dueFacts(x, 0, 0, 0, 3, 9, 0, 1, 1, 0);
        dueFacts(x, 1, 1, 1, 4, 5, 1, 1, 2, 0);
        dueFacts(x, 2, 2, 2, 0, 4, 0, 1, 1, 0);
        dueFacts(x, 3, 3, 3, 5, 1, 3, 1, 1, 0);
        dueFacts(x, 4, 4, 2, 4, 6, 4, 1, 3, 0);
        dueFacts(x, 5, 5, 1, 2, 5, 1, 1, 1, 0);
        x.buy(4);
        dueFacts(x, 4, 4, 2, 4, 6, 4, 1, 3, 1);
        dueFacts(x, 5, 5, 1, 2, 5, 1, 1, 1, 0);
    }

    private static void factsByHours() {
        DoorSold x = Due.in(Due.ALL_KINDS);
        for (int hour = 0; hour < 14; hour++) {
            int even = hour % 2 == 0 ? 1 : 0;
            dueFacts(x, 0, 0, 0, 3, 9, 0, 1, 1, 0);
            dueFacts(x, 1, 1, 1, 4, 5, 1, even, 2, 0);
            dueFacts(x, 2, 2, 2, 0, 4, 0, 1, 1, 0);
            dueFacts(x, 3, 3, 3, 5, 1, 3, hour % 3 == 0 ? 1 : 0, 1, 0);
            dueFacts(x, 4, 4, 2, 4, 6, 4, 1, 3, 0);
            dueFacts(x, 5, 5, 1, 2, 5, (1 + hour) % 6, even, 1, 0);
            x.stay();
        }
    }

    private static void costs() {
        for (int price = 0; price <= 9; price++) {
            DoorSold x = Due.in("n200" + "d00" + price + "u00" + price + "b00" + price + "k00" + price + "s00" + price
                    + "c00" + price);
            int[] want = {price, price, price / 2, 1, price / 2 + 3, price};
            for (int i = 0; i < want.length; i++) Due.told(x, "door(" + i + ", 3)", x.door(i, 3), 1, want[i]);
        }
    }

    private static void doorRefused() {
        DoorSold x = new DoorSold();
        Due.due("door(0, 0) without DOORS", x.door(0, 0), DoorSold.BAD);
        Due.enter(x, "n300d019u120");
        x.door(0, 3);
        Due.told(x, "door(2, 0)", x.door(2, 0), DoorSold.BAD, 9);
        Due.told(x, "door(-1, 0)", x.door(-1, 0), DoorSold.BAD, 9);
        Due.told(x, "door(0, 8)", x.door(0, 8), DoorSold.BAD, 9);
        Due.told(x, "door(0, -1)", x.door(0, -1), DoorSold.BAD, 9);
    }

    private static void marksOfDutchOnes() {
        DoorSold x = Due.in(Due.ALL_KINDS);
        int[] want = {5, 3, 4, 4, 4, 3, 5};
        for (int hour = 0; hour < want.length; hour++) {
            Due.due("mark(1, 1) in HOUR " + hour, x.mark(1, 1), want[hour]);
            Due.due("mark(5, 1) in HOUR " + hour, x.mark(5, 1), want[hour]);
            x.stay();
        }
        Due.due("mark(0, 1) of one alone", Due.in("n200u000").mark(0, 1), 0);
    }

    private static void marksOfBackOnes() {
        int[] ofBack = {0, 1, 1, 2, 2, 3, 3, 4, 4, 5};
        int[] ofStudy = {0, 0, 0, 0, 0, 0, 0, 1, 1, 2};
        for (int price = 0; price <= 9; price++) {
            DoorSold x = Due.in("n200b00" + price + "s00" + price);
            Due.due("mark(0, 2) by PRICE " + price, x.mark(0, 2), ofBack[price]);
            Due.due("mark(1, 2) by PRICE " + price, x.mark(1, 2), ofStudy[price]);
        }
    }

    private static void marksOfBrickedOnes() {
        DoorSold x = Due.in(Due.ALL_KINDS);
        int[] want = {0, 2, 1, 0, 2, 1, 0};
        for (int hour = 0; hour < want.length; hour++) {
            Due.due("mark(3, 3) in HOUR " + hour, x.mark(3, 3), want[hour]);
            x.stay();
        }
    }

    private static void marksOfStudies() {
        Due.due("mark(0, 4) from 4 to 2 of 6", Due.in("n600s247").mark(0, 4), 12);
        Due.due("mark(0, 4) from 2 to 4 of 6", Due.in("n600s427").mark(0, 4), 6);
        Due.due("mark(0, 4) from 3 to 3 of 6", Due.in("n600s337").mark(0, 4), 0);
        Due.due("mark(0, 4) from 6 to 5 of 7", Due.in("n700s567").mark(0, 4), 18);
    }

    private static void marksOfCarts() {
        DoorSold x = Due.in("n440c101d200");
        x.buy(1);
        x.set(1);
        int[] want = {3, 2, 1, 0, 3};
        for (int hour = 0; hour < want.length; hour++) {
            Due.due("mark(0, 5) in HOUR " + hour, x.mark(0, 5), want[hour]);
            x.stay();
        }
        x.road();
        Due.due("mark(0, 5) in PLACE 1, HOUR 8", x.mark(0, 5), 0);
    }

    private static void markRefused() {
        DoorSold x = new DoorSold();
        Due.due("mark(0, 1) without DOORS", x.mark(0, 1), DoorSold.BAD);
        Due.enter(x, Due.ALL_KINDS);
        boolean[][] is = {
            {false, false, false, false, false},
            {true, false, false, false, false},
            {false, true, false, false, false},
            {false, false, true, false, false},
            {false, true, false, true, false},
            {true, false, false, false, true}};
        for (int i = 0; i < 6; i++) {
            for (int kind = 1; kind <= 5; kind++) {
                int door = i;
                int of = kind;
                String call = "mark(" + i + ", " + kind + ")";
                if (is[i][kind - 1]) Due.due(call + " is told", x.mark(i, kind) >= 0 ? 1 : 0, 1);
                else Due.finds(x, call, () -> x.mark(door, of), UNLIKE);
            }
            Due.due("mark(" + i + ", 0)", x.mark(i, 0), DoorSold.BAD);
            Due.due("mark(" + i + ", 6)", x.mark(i, 6), DoorSold.BAD);
            Due.due("mark(" + i + ", -1)", x.mark(i, -1), DoorSold.BAD);
        }
        Due.due("mark(6, 1)", x.mark(6, 1), DoorSold.BAD);
        Due.due("mark(-1, 1)", x.mark(-1, 1), DoorSold.BAD);
    }
}
