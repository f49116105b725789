/** Promises 14 to 22: road, stay, go, buy, sell, set, undo, keep, on. */
public final class DeedsTest {
    private static final int NOTHING = 1;

    public static void main(String[] args) {
        road();
        stay();
        go();
        goThroughEachKind();
        buy();
        sell();
        set();
        setEachKind();
        fullComesLast();
        undo();
        keepAndOn();
        Due.end();
    }

    private static void dueNow(DoorSold x, String when, int place, int hour, int purse, int deeds, int bought) {
        Due.due(when + ": PLACE", x.count(2), place);
        Due.due(when + ": HOUR", x.count(3), hour);
        Due.due(when + ": PURSE", x.count(4), purse);
        Due.due(when + ": DEEDS", x.count(5), deeds);
        Due.due(when + ": BOUGHT", x.count(6), bought);
    }

    private static DoorSold after40Deeds(String country) {
        DoorSold x = Due.in(country);
        for (int d = 0; d < 40; d++) x.stay();
        return x;
    }

    private static void road() {
        DoorSold x = new DoorSold();
        Due.due("road() without DOORS", x.road(), DoorSold.STATE);
        Due.enter(x, "n300d001");
        Due.due("road()", x.road(), 1);
        Due.due("road()", x.road(), 2);
        Due.due("road() from the last one", x.road(), 0);
        dueNow(x, "after three roads", 0, 9, 0, 3, 0);
        for (int d = 3; d < 40; d++) Due.due("road() as DEED " + d, x.road(), (d + 1) % 3);
        Due.due("road() as DEED 40", x.road(), DoorSold.FULL);
        dueNow(x, "after forty roads", 1, 120, 0, 40, 0);
    }

    private static void stay() {
        DoorSold x = new DoorSold();
        Due.due("stay() without DOORS", x.stay(), DoorSold.STATE);
        Due.enter(x, "n300d001");
        for (int d = 0; d < 40; d++) Due.due("stay() as DEED " + d, x.stay(), d + 1);
        Due.due("stay() as DEED 40", x.stay(), DoorSold.FULL);
        dueNow(x, "after forty hours", 0, 40, 0, 40, 0);
    }

    private static void go() {
        DoorSold x = new DoorSold();
        Due.due("go(0) without DOORS", x.go(0), DoorSold.BAD);
        Due.enter(x, "n399 d020 k101 u011");
        Due.due("go(3)", x.go(3), DoorSold.BAD);
        Due.due("go(-1)", x.go(-1), DoorSold.BAD);
        Due.due("go(0), not BOUGHT", x.go(0), DoorSold.STATE);
        x.buy(0);
        x.buy(1);
        x.buy(2);
        Due.due("go(1), one goes IN elsewhere", x.go(1), DoorSold.STATE);
        x.stay();
        Due.due("go(2), not OPEN", x.go(2), DoorSold.STATE);
        x.stay();
        Due.due("go(2)", x.go(2), 1);
        dueNow(x, "after a DUTCH one", 1, 4, 97, 6, 7);
        Due.due("go(1), not OPEN", x.go(1), DoorSold.STATE);
        x.stay();
        x.stay();
        Due.due("go(1)", x.go(1), 0);
        dueNow(x, "after a BRICKED one", 0, 7, 97, 9, 7);
        Due.due("go(0)", x.go(0), 2);
        x.sell(0);
        x.set(1);
        Due.due("go(0), sold", x.go(0), DoorSold.STATE);
    }

    private static void goThroughEachKind() {
        String[] countries = {"n709d050", "u050", "b500", "k050", "s500", "c050"};
        int[] hours = {1, 2, 1, 1, 3, 1};
        for (int kind = 0; kind < 6; kind++) {
            DoorSold x = Due.in(kind == 0 ? countries[0] : "n709" + countries[kind]);
            x.buy(0);
            Due.due("go(0) of KIND " + kind, x.go(0), 5);
            Due.due("HOURS of KIND " + kind, x.count(3), hours[kind]);
        }
        DoorSold x = Due.in("n709c301");
        x.buy(0);
        for (int hour = 0; hour < 4; hour++) {
            Due.due("go(0), a CART elsewhere in HOUR " + hour, x.go(0), DoorSold.STATE);
            x.stay();
        }
        Due.due("go(0), a CART come round", x.go(0), 0);
        Due.due("HOUR behind it", x.count(3), 5);
    }

    private static void buy() {
        DoorSold x = new DoorSold();
        Due.due("buy(0) without DOORS", x.buy(0), DoorSold.BAD);
        Due.enter(x, "n213 d019 b019 k019 d010");
        Due.due("buy(4)", x.buy(4), DoorSold.BAD);
        Due.due("buy(-1)", x.buy(-1), DoorSold.BAD);
        Due.due("buy(0)", x.buy(0), 4);
        Due.due("buy(0) again", x.buy(0), DoorSold.STATE);
        Due.due("buy(1) for all there is", x.buy(1), 0);
        Due.due("buy(2)", x.buy(2), DoorSold.SPENT);
        Due.due("buy(3) for nothing", x.buy(3), 0);
        dueNow(x, "after three are bought", 0, 0, 0, 3, 11);
        Due.due("buy(1): STATE ahead of SPENT", x.buy(1), DoorSold.STATE);
    }

    private static void sell() {
        DoorSold x = new DoorSold();
        Due.due("sell(0) without DOORS", x.sell(0), DoorSold.BAD);
        Due.enter(x, "n230 d019 b019 k019 s017");
        Due.due("sell(4)", x.sell(4), DoorSold.BAD);
        Due.due("sell(-1)", x.sell(-1), DoorSold.BAD);
        Due.due("sell(0), not BOUGHT", x.sell(0), DoorSold.STATE);
        for (int i = 0; i < 4; i++) x.buy(i);
        dueNow(x, "after four are bought", 0, 0, 10, 4, 15);
        Due.due("sell(0) for 4 of 9", x.sell(0), 14);
        Due.due("sell(0) again", x.sell(0), DoorSold.STATE);
        Due.due("sell(1) for 2 of 4", x.sell(1), 16);
        Due.due("sell(2) for 0 of 1", x.sell(2), 16);
        Due.due("sell(3) for 3 of 6", x.sell(3), 19);
        dueNow(x, "after four are sold", 0, 0, 19, 8, 0);
        Due.due("buy(0) once more", x.buy(0), 10);
    }

    private static void set() {
        DoorSold x = new DoorSold();
        Due.due("set(0) without DOORS", x.set(0), DoorSold.BAD);
        Due.enter(x, Due.ALL_KINDS);
        Due.due("set(6)", x.set(6), DoorSold.BAD);
        Due.due("set(-1)", x.set(-1), DoorSold.BAD);
        Due.due("set(1), not BOUGHT", x.set(1), DoorSold.STATE);
        x.buy(0);
        x.buy(1);
        Due.due("set(0), it is so", x.set(0), DoorSold.STATE);
        Due.due("set(1)", x.set(1), 0);
        Due.due("set(1) again, it is so", x.set(1), DoorSold.STATE);
        Due.told(x, "where one goes IN", x.door(1, 4), 1, 0);
        Due.told(x, "where it LEADS stays", x.door(1, 2), 1, 4);
        Due.due("go(1)", x.go(1), 4);
        dueNow(x, "after it was set up", 4, 2, 26, 4, 3);
    }

    private static void setEachKind() {
        DoorSold x = Due.in(Due.ALL_KINDS);
        for (int i = 0; i < 6; i++) x.buy(i);
        for (int r = 0; r < 5; r++) x.road();
        int[] at = {5, 5, 2, 5, 2, 2};
        int[] leads = {3, 4, 5, 5, 5, 2};
        for (int i = 0; i < 6; i++) {
            Due.due("set(" + i + ") in PLACE 5, HOUR 15", x.set(i), at[i]);
            Due.told(x, "door(" + i + ", 1)", x.door(i, 1), 1, at[i]);
            Due.told(x, "door(" + i + ", 2)", x.door(i, 2), 1, leads[i]);
            Due.told(x, "door(" + i + ", 4)", x.door(i, 4), 1, 5);
        }
        x.stay();
        Due.told(x, "a CART goes on", x.door(5, 4), 1, 0);
        Due.due("set(5) an HOUR later", x.set(5), 1);
    }

    private static void fullComesLast() {
        DoorSold x = after40Deeds("n205 d010 d119 k119 d010");
        Due.due("buy(0), 40 DEEDS", x.buy(0), DoorSold.FULL);
        Due.due("buy(1), 40 DEEDS", x.buy(1), DoorSold.SPENT);
        Due.due("go(0), 40 DEEDS", x.go(0), DoorSold.STATE);
        Due.due("sell(0), 40 DEEDS", x.sell(0), DoorSold.STATE);
        Due.due("set(0), 40 DEEDS", x.set(0), DoorSold.STATE);
        Due.due("undo(37)", x.undo(37), 3);
        x.buy(0);
        x.buy(2);
        x.stay();
        Due.due("buy(0), BOUGHT, 40 DEEDS", x.buy(0), DoorSold.STATE);
        Due.due("buy(3), 40 DEEDS", x.buy(3), DoorSold.FULL);
        Due.due("go(0), it can be, 40 DEEDS", x.go(0), DoorSold.FULL);
        Due.due("sell(0), BOUGHT, 40 DEEDS", x.sell(0), DoorSold.FULL);
        Due.due("set(2), BOUGHT, 40 DEEDS", x.set(2), DoorSold.FULL);
        dueNow(x, "what is refused changes nothing", 0, 38, 4, 40, 5);
        x.undo(39);
        Due.due("go(0) as the last DEED", x.go(0), 1);
        x.undo(39);
        Due.due("buy(3) as the last DEED", x.buy(3), 4);
        x.undo(39);
        Due.due("sell(0) as the last DEED", x.sell(0), 4);
        x.undo(39);
        Due.due("set(2) as the last DEED", x.set(2), 0);
        Due.due("40 DEEDS", x.count(5), 40);
    }

    private static void undo() {
        DoorSold x = new DoorSold();
        Due.due("undo(0) without DEEDS", x.undo(0), 0);
        Due.due("undo(1) without DEEDS", x.undo(1), DoorSold.BAD);
        Due.due("undo(-1)", x.undo(-1), DoorSold.BAD);
        for (int n = 0; n <= 10; n++) {
            DoorSold all = afterFirst(10);
            Due.due("undo(11) of 10", all.undo(11), DoorSold.BAD);
            Due.due("undo(-1) of 10", all.undo(-1), DoorSold.BAD);
            Due.due("undo(MIN) of 10", all.undo(Integer.MIN_VALUE), DoorSold.BAD);
            Due.due("undo(" + n + ") of 10", all.undo(n), 10 - n);
            Due.due("undone to DEED " + n, all.digest(), afterFirst(n).digest());
        }
    }

    private static DoorSold afterFirst(int n) {
        DoorSold x = Due.in(Due.ALL_KINDS);
        if (n > 0) Due.due("buy(5)", x.buy(5), 35);
        if (n > 1) Due.due("buy(2)", x.buy(2), 31);
        if (n > 2) Due.due("go(2)", x.go(2), 2);
        if (n > 3) Due.due("set(2)", x.set(2), 2);
        if (n > 4) Due.due("road()", x.road(), 3);
        if (n > 5) Due.due("set(5)", x.set(5), 5);
        if (n > 6) Due.due("stay()", x.stay(), 5);
        if (n > 7) Due.due("sell(5)", x.sell(5), 33);
        if (n > 8) Due.due("buy(1)", x.buy(1), 28);
        if (n > 9) Due.due("lots(1, 5)", x.lots(1, 5), 3);
        Due.due("DEEDS", x.count(5), n);
        return x;
    }

    private static void keepAndOn() {
        DoorSold x = new DoorSold();
        Due.due("keep(0) without DOORS", x.keep(0), DoorSold.STATE);
        Due.due("keep(3)", x.keep(3), DoorSold.BAD);
        Due.due("keep(-1)", x.keep(-1), DoorSold.BAD);
        Due.due("on(3)", x.on(3), DoorSold.BAD);
        Due.due("on(-1)", x.on(-1), DoorSold.BAD);
        Due.finds(x, "on(0)", () -> x.on(0), NOTHING);
        Due.enter(x, Due.ALL_KINDS);
        Due.due("keep(2) without DEEDS", x.keep(2), 0);
        x.buy(1);
        x.set(1);
        x.go(1);
        Due.due("keep(0)", x.keep(0), 3);
        Due.due("count(10)", x.count(10), 2);
        long then = x.digest();
        Due.due("undo(1)", x.undo(1), 2);
        x.road();
        Due.due("on(0)", x.on(0), 3);
        Due.due("as it was kept", x.digest(), then);
        Due.due("on(0) once more", x.on(0), 3);
        Due.due("its DEEDS are undone, too", x.undo(2), 1);
        dueNow(x, "undone in what was kept", 0, 0, 35, 2, 2);
        Due.due("on(2)", x.on(2), 0);
        dueNow(x, "gone on from 2", 0, 0, 40, 0, 0);
        Due.told(x, "AT as it was kept", x.door(1, 1), 1, 1);
        x.stay();
        Due.due("keep(0) anew", x.keep(0), 1);
        Due.due("count(10) stays", x.count(10), 2);
        Due.finds(x, "on(1)", () -> x.on(1), NOTHING);
    }
}
