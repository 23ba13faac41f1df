import java.lang.management.ManagementFactory;

/** What a run takes of the room that all its calls live in: little for an object, nothing for a call but a fortress. */
public final class RoomTest {
    private static final Check CHECK = new Check("RoomTest");

    public static void main(String[] args) {
        run(new GeeseKeys());
        long before = room();
        GeeseKeys x = new GeeseKeys();
        long made = room() - before;
        CHECK.isSo("an object takes " + made + " bytes", made < 32_000);
        before = room();
        run(x);
        long called = room() - before;
        CHECK.isSo("calls take " + called + " bytes", called < 16_000);
        CHECK.end();
    }

    private static long room() {
        com.sun.management.ThreadMXBean threads = (com.sun.management.ThreadMXBean) ManagementFactory.getThreadMXBean();
        return threads.getThreadAllocatedBytes(Thread.currentThread().getId());
    }

    private static void run(GeeseKeys x) {
        for (int gate = 0; gate < 9; gate++) {
            x.gate(gate % 8, (gate + 3) % 8);
        }
        for (int goose = 0; goose < 6; goose++) {
            x.goose(goose + 1, goose, goose, goose);
        }
        for (int n = 0; n < 6; n++) {
            Check.feed(x, "lure 7 p=1|(c>3&g<9);scare 3 !h=2;eat 1").fortress();
        }
        x.tape(0, 0, 60);
        for (int n = 0; n < 100; n++) {
            x.way(0, 7, 1);
            x.can(0, 0);
            x.told(3);
            x.lead(0, 9);
            x.odds(0, 20, 0);
            x.image();
            x.undo();
            x.act(5, 2, n);
            x.shift(0, 0, 0, 1, 50);
        }
    }
}
