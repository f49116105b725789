/** Promises 37 to 43: asked, upper, lower, count, finding, findings, digest; and the constants. */
public final class ToldTest {
    public static void main(String[] args) {
        constants();
        asked();
        fractions();
        count();
        findings();
        digestOfNothing();
        digestOfAll();
        Due.end();
    }

    private static void constants() {
        Due.due("BAD", DoorSold.BAD, -1);
        Due.due("FULL", DoorSold.FULL, -2);
        Due.due("FINDING", DoorSold.FINDING, -3);
        Due.due("STATE", DoorSold.STATE, -4);
        Due.due("SPENT", DoorSold.SPENT, -6);
        Due.due("NONE", DoorSold.NONE, -9);
    }

    /** Those that tell by asked() do, each a number of its own; all the others leave it as it is. */
    private static void asked() {
        DoorSold x = Due.in("n799 d050 d500 u127");
        Due.due("asked() before", x.asked(), 0);
        x.row(0, 3);
        x.lay(0, 0, 70);
        Due.told(x, "lay(0, 0, 80)", x.lay(0, 0, 80), 1, 70);
        Due.told(x, "at(0, 0)", x.at(0, 0), 1, 80);
        Due.told(x, "mean(0)", x.mean(0), 1, 26);
        Due.told(x, "door(2, 3)", x.door(2, 3), 1, 7);
        Due.told(x, "soonest(1)", x.soonest(1), 3, 2);
        Due.told(x, "cheapest(5, 1)", x.cheapest(5, 1), 0, 1);
        Due.told(x, "shut(5, 1)", x.shut(5, 1), 0, 0);
        Due.told(x, "round(5)", x.round(5), 2, 5);
        Due.told(x, "faces()", x.faces(), 1, 1);
        Due.lay(x, 1);
        Due.told(x, "fits(0, 1)", x.fits(0, 1), 127, 127);
        x.tear(1);
        leavesAsked(x, 127);
    }

    private static void leavesAsked(DoorSold x, int asked) {
        long[] answers = {x.row(1, 3), x.copy(0, 0, 1, 0, 1), x.tear(1), x.text(1, 1), x.put(1, 0, 9), x.fault(1),
            x.mark(2, 1), x.road(), x.stay(), x.buy(0), x.sell(0), x.buy(0), x.set(0), x.go(0), x.keep(0), x.on(0),
            x.undo(1), x.where(3), x.way(3, 1), x.worth(0, 5), x.row(1, 0), x.kinds(0, 1), x.chase(0, 1, 3),
            x.odds(5, 3, 4), x.mid(5, 3), x.lots(1, 1), x.upper(), x.lower(), x.count(1), x.finding(), x.findings(1),
            x.digest(), x.country(0)};
        Due.due("calls that do not tell by it", answers.length, 33);
        Due.due("asked() behind them", x.asked(), asked);
        long[] refused = {x.lay(9, 0, 0), x.at(0, 99), x.mean(1), x.door(9, 0), x.soonest(9), x.cheapest(9, 0),
            x.shut(0, 31), x.fits(0, 5), x.round(7), new DoorSold().faces()};
        for (long answer : refused) Due.due("refused", answer < 0 && answer != DoorSold.NONE ? 1 : 0, 1);
        Due.due("asked() behind what was refused", x.asked(), asked);
        long[] none = {x.cheapest(6, 0), x.shut(0, 0), x.round(3)};
        for (long answer : none) Due.due("answered NONE", answer, DoorSold.NONE);
        Due.due("asked() behind NONE", x.asked(), asked);
    }

    private static void fractions() {
        DoorSold x = Due.in("n700 d050");
        Due.due("upper() before", x.upper(), 0);
        Due.due("lower() before", x.lower(), 1);
        x.buy(0);
        x.odds(5, 1, 5);
        Due.due("upper() by odds()", x.upper(), 7);
        Due.due("lower() by odds()", x.lower(), 12);
        x.mid(5, 5);
        Due.due("upper() by mid()", x.upper(), 41);
        Due.due("lower() by mid()", x.lower(), 6);
        x.row(0, 2);
        x.lay(0, 0, 5);
        x.mean(0);
        Due.due("upper() is not by mean()", x.upper(), 41);
        Due.due("lower() is not by mean()", x.lower(), 6);
        x.country(0);
        Due.due("upper() stays with another COUNTRY", x.upper(), 41);
    }

    private static void count() {
        DoorSold x = Due.in("n550 u019 d120 c231 s340 u449");
        x.text(3, 0);
        x.row(0, 0);
        x.row(4, 2);
        x.row(5, 40);
        x.tear(4);
        x.buy(1);
        x.buy(3);
        x.road();
        x.keep(1);
        int[] want = {5, 5, 1, 3, 47, 3, 10, 3, 2, 2, 1};
        for (int what = 0; what < want.length; what++) Due.due("count(" + what + ")", x.count(what), want[what]);
        Due.due("count(11)", x.count(11), DoorSold.BAD);
        Due.due("count(-1)", x.count(-1), DoorSold.BAD);
    }

    private static void findings() {
        DoorSold x = Due.in("n300d010");
        x.tear(0);
        Due.due("finding() NOTHING", x.finding(), 1);
        x.row(0, 2);
        x.at(0, 2);
        Due.due("finding() BEYOND", x.finding(), 2);
        x.mark(0, 1);
        Due.due("finding() UNLIKE", x.finding(), 3);
        x.row(0, 0);
        x.mean(0);
        Due.due("finding() NOUGHT", x.finding(), 4);
        x.row(0, -1);
        x.text(0, -1);
        Due.due("finding() SIZE", x.finding(), 5);
        x.at(9, 9);
        x.go(0);
        x.count(0);
        Due.due("finding() stays", x.finding(), 5);
        x.on(0);
        Due.due("finding() NOTHING again", x.finding(), 1);
        int[] want = {2, 1, 1, 1, 2};
        for (int f = 1; f <= 5; f++) Due.due("findings(" + f + ")", x.findings(f), want[f - 1]);
        x.country(0);
        Due.due("findings() stay with another COUNTRY", x.findings(1), 2);
        Due.due("findings(0)", x.findings(0), DoorSold.BAD);
        Due.due("findings(6)", x.findings(6), DoorSold.BAD);
        Due.due("findings(MIN)", x.findings(Integer.MIN_VALUE), DoorSold.BAD);
    }

    private static long onto(long h, long... values) {
        for (long v : values) h = 31 * h + v;
        return h;
    }

    private static void digestOfNothing() {
        long h = onto(17, 0, 0, 0, 0, 0, 0, 0, 0, 0, 0, 0);
        h = onto(h, -1, -1, -1);
        h = onto(h, -1, -1, -1, -1, -1, -1);
        h = onto(h, -1, -1, -1, -1);
        Due.due("digest() of a new object", new DoorSold().digest(), h);
    }

    private static void digestOfAll() {
        DoorSold x = new DoorSold();
        Due.write(x, 1, "n309c014s125");
        x.country(1);
        x.keep(0);
        x.buy(0);
        x.stay();
        x.keep(2);
        x.road();
        Due.lay(x, 0, -5, Integer.MAX_VALUE);
        Due.lay(x, 5);
        x.text(3, 1);
        x.put(3, 0, 200);
        int asked = x.asked();
        long h = onto(17, 2, 3, 1, 4, 5, 3, 1, 1, 2, 2, 2);
        h = onto(h, 5, 0, 1, 4, 1, 1, 1, 1);
        h = onto(h, 4, 1, 2, 5, 2, 1, 3, 0);
        h = onto(h, 0, -1, 2);
        h = onto(h, 2, -5, Integer.MAX_VALUE, -1, -1, -1, -1, 0);
        h = onto(h, -1, 12);
        for (char sign : "n309c014s125".toCharArray()) h = onto(h, sign);
        h = onto(h, -1, 1, -56);
        Due.due("digest()", x.digest(), h);
        Due.due("digest() changes nothing", x.digest(), h);
        Due.due("digest() does not tell by asked()", x.asked(), asked);
    }
}
