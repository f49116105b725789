import com.sun.management.ThreadMXBean;
import java.lang.management.ManagementFactory;

/** All calls of a run live in one room: the object may make what it needs, its calls nothing. */
public final class RoomTest {
    private static final ThreadMXBean ROOM = (ThreadMXBean) ManagementFactory.getThreadMXBean();

    public static void main(String[] args) {
        DoorSold warm = Due.in("n799 d059 u165 b209 k354 s247 c125");
        dearestCalls(warm);
        callsMakeNothing();
        anObjectIsSmall();
        Due.end();
    }

    private static long taken() {
        return ROOM.getCurrentThreadAllocatedBytes();
    }

    private static void dearestCalls(DoorSold x) {
        for (int i = 0; i < 6; i++) x.buy(i);
        x.keep(0);
        x.row(0, 6);
        for (int k = 0; k < 30; k++) {
            x.way(5, 1);
            x.cheapest(6, 30);
            x.shut(6, 30);
            x.odds(6, 30, 5);
            x.mid(6, 5);
            x.chase(0, 3, 6);
            x.fits(5, 0);
            x.kinds(5, 0);
            x.round(0);
            x.faces();
            x.lots(5, 77);
            x.undo(6);
            x.on(0);
            x.country(0);
            x.digest();
            x.at(9, 9);
            x.tear(5);
        }
    }

    private static void callsMakeNothing() {
        DoorSold x = Due.in("n799 d059 u165 b209 k354 s247 c125");
        long before = taken();
        dearestCalls(x);
        long made = taken() - before;
        Due.due("bytes that some 500 of the dearest calls take: " + made, made < 4096 ? 1 : 0, 1);
    }

    private static void anObjectIsSmall() {
        DoorSold[] many = new DoorSold[100];
        long before = taken();
        for (int k = 0; k < many.length; k++) many[k] = new DoorSold();
        long each = (taken() - before) / many.length;
        Due.due("bytes that an object takes: " + each, each < 12000 ? 1 : 0, 1);
    }
}
