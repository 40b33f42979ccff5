import com.sun.management.ThreadMXBean;
import java.lang.management.ManagementFactory;

/** All calls of a run live in one room that is never tidied: what calls make anew must stay small. */
public final class RoomTest {
    private static final String PROGRAM = "engine 0 start a sidepins 0 2;engine 1 start a autopush 3;"
            + "a:mov x not status side 1 delay 3;jmp xdec a;load x 1;store isr 2;in x 2;push iffull noblock;";
    private static final int CALLS = 512;

    private interface Call {
        void make(int i);
    }

    public static void main(String[] args) {
        PinEngines x = Checks.loaded(PROGRAM);
        measure("new objects", 60000, i -> new PinEngines());
        measure("run", 100, i -> x.run(100));
        measure("cyclesUntil", 100, i -> x.cyclesUntil(15, 1, 100));
        measure("stuck and period", 100, i -> x.period(15, 100 + x.stuck(100)));
        measure("operations and undo", 100, i -> operate(x));
        measure("the snapshot", 100, i -> keep(x));
        measure("format", 200, i -> x.format(i % 6));
        measure("feed and load", 400, i -> load(x));
        measure("feed and query", 400, i -> query(x));
        Checks.finish("RoomTest");
    }

    private static void operate(PinEngines x) {
        x.put(0, 5);
        x.drive(3, 1);
        x.schedule(x.clock(), 4, 1);
        x.poke(3, 3);
        x.restart(0);
        x.undo();
        x.undo();
    }

    private static void keep(PinEngines x) {
        x.saveSnapshot();
        x.restoreSnapshot();
    }

    /** "engine 0 start a;a:" and "push;jmp a; push;   ", twenty bytes each. */
    private static void load(PinEngines x) {
        x.feed(0x656E6769, 0x6E652030, 0x20737461, 0x72742061, 0x3B613A20);
        x.feed(0x70757368, 0x3B6A6D70, 0x20613B70, 0x7573683B, 0x20202020);
        Checks.due("load", x.load(40), 3);
    }

    /** "many x=y or not x=y ". */
    private static void query(PinEngines x) {
        x.feed(0x6D616E79, 0x20783D79, 0x206F7220, 0x6E6F7420, 0x783D7920);
        Checks.due("query", x.query(20), 1);
    }

    /** Compares the mean number of bytes that a call makes with the most that it should. */
    private static void measure(String what, long most, Call call) {
        call.make(0);
        ThreadMXBean threads = (ThreadMXBean) ManagementFactory.getThreadMXBean();
        long id = Thread.currentThread().getId();
        long before = threads.getThreadAllocatedBytes(id);
        for (int i = 0; i < CALLS; i++) {
            call.make(i);
        }
        long mean = (threads.getThreadAllocatedBytes(id) - before) / CALLS;
        Checks.due(what + ": " + mean + " bytes a call are too many", mean > most, false);
    }
}
