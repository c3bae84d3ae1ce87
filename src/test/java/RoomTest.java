import java.lang.management.ManagementFactory;

/** All calls of a run share one room, so an object's calls make nothing and its constructor makes little. */
public final class RoomTest {
    private static final com.sun.management.ThreadMXBean THREADS =
            (com.sun.management.ThreadMXBean) ManagementFactory.getThreadMXBean();
    private static long keep;

    public static void main(String[] args) {
        Checks checks = new Checks("RoomTest");
        for (int i = 0; i < 3; i++) {
            calls(new AlarmsOfFondness(), 7);
        }
        long before = made();
        AlarmsOfFondness x = new AlarmsOfFondness();
        long ofConstructor = made() - before;
        checks.holds("a constructor makes " + ofConstructor + " bytes", ofConstructor < 16000);
        before = made();
        calls(x, 7);
        long ofCalls = made() - before;
        checks.holds("calls make " + ofCalls + " bytes", ofCalls < 1000);
        checks.holds("answers are kept", keep != 0);
        checks.end();
    }

    private static long made() {
        return THREADS.getThreadAllocatedBytes(Thread.currentThread().getId());
    }

    /** Each call of the face, the dearest ones at their dearest. */
    private static void calls(AlarmsOfFondness x, int seed) {
        Checks.feedAll(x, "sets tired + fond * 2 - (day < 5) ; tires 3 ; grows not tired < 9 ;");
        keep += x.text() + x.force(1);
        for (int i = 0; i < 5; i++) {
            keep += x.person(i, i, i + 5);
        }
        keep += x.image() + x.set(6, 1, 5) + x.day() + x.back() + x.round(0) + x.others(0);
        keep += x.film(0, 0, 20) + x.sheet(1, 0, 40) + x.cell(1, 0, 3) + x.copy(0, 0, 1, 0, 20);
        keep += x.court(1, 0, 0, 5) + x.taken(0, 0) + x.mean(0) + x.asks(0, 1, 0) + x.woken(0, 3);
        for (int what = 0; what < 12; what++) {
            keep += x.tells(0, 0, 1, what) + x.run(0, 40, what) + x.told(1, what) + x.count(what);
        }
        keep += x.duty(0, 20, 0) + x.fonder(0, 20, 0) + x.drawn(seed, 40) + x.chance(seed, 20, 3, 0);
        Checks.feedAll(x, "sets (((((((");
        keep += x.text();
    }
}
