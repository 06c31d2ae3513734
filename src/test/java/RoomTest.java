import java.lang.management.ManagementFactory;

/** All calls of a run live in one room: a new object stays small, and no call makes anything. */
public final class RoomTest {
    private static final String SIX = "guest a plain off 300 pace 1 cooks 1;guest b doctor off 9 pace 30 cooks 2;guest c shy off 20 pace 5 "
        + "cooks 20;guest d great off 7 pace 3 cooks 9;guest e plain off 44 pace 2 cooks 0;guest f plain off 1 pace 1 cooks 3;snow 9 0 1;"
        + "tastes skill*3-late+not (night<3)*5;";
    private static final String NIGHT = "wheel a 3;run b 2;hire a c;minute;minute;";

    private static final com.sun.management.ThreadMXBean THREADS =
        (com.sun.management.ThreadMXBean) ManagementFactory.getThreadMXBean();

    private static long made() {
        return THREADS.getThreadAllocatedBytes(Thread.currentThread().getId());
    }

    public static void main(String[] args) {
        LastCook x = new LastCook();
        for (int warm = 0; warm < 3; warm++) {
            calls(x);
        }
        made();
        long before = made();
        long idle = made() - before;
        before = made();
        calls(x);
        long byCalls = made() - before - idle;
        before = made();
        x = new LastCook();
        long byObject = made() - before - idle;
        System.out.println("bytes made by all calls: " + byCalls + ", by a new object: " + byObject);
        if (byCalls > 1000 || byObject > 60000) {
            System.exit(1);
        }
    }

    private static void calls(LastCook x) {
        Check.tell(x, SIX);
        x.supper();
        Check.tell(x, NIGHT);
        x.night();
        for (int i = 0; i < 10; i++) {
            x.wheel(0, 3);
            x.run(1, 2);
            x.hire(0, 3);
            x.minute();
            x.mark(i % 4, false);
            x.see(3, 100, true);
            asks(x, i % 6);
        }
        x.undo();
        x.mark(2, true);
        Check.tell(x, SIX + ",");
        x.supper();
    }

    private static void asks(LastCook x, int g) {
        x.guest(g, 1);
        x.judged(2);
        x.when();
        x.cook();
        x.order(g);
        x.later(g, 60);
        x.nights(6);
        x.delay(g);
        x.spare(g);
        x.best();
        x.excuse(g);
        x.meets(g, 1);
        x.near(50);
        x.with(g);
        x.boy(50);
        x.held();
        x.fair();
        x.who();
        x.ask();
        x.chance(g, 6, 3);
        x.rests(1, 2, 3, -1);
        x.years(77, 99, 1);
        x.count(6);
    }
}
