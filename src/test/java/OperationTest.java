/** Promises 27 to 34 (the operations) and 42 to 45 (undo and the snapshot). */
public final class OperationTest {
    /** A program that uses all that a cycle can change. */
    private static final String BUSY = "level 9 1;engine 0 start a clock 1 77 setpins 0 4 sidepins 3 2 inpins 2;"
            + "engine 1 start b autopush 8 outpins 6 3 autopull 4;engine 2 start c joinin;"
            + "a:set dirs 15 side 1;set pins 10 delay 1;store x 3;raise 1;in pins 3 side 2;push noblock;jmp ydec a;"
            + "b:out pins 3;in osr 5;wait 1 flag 1;load y x;jmp xdec b;"
            + "c:pull noblock;mov x not osr;signal 5;";

    public static void main(String[] args) {
        putAndTake();
        enabling();
        restarting();
        driving();
        scheduling();
        poking();
        running();
        undoing();
        undoneOperations();
        failedCallsAreNotRecorded();
        snapshots();
        Checks.finish("OperationTest");
    }

    private static void putAndTake() {
        PinEngines x = Checks.loaded("engine 0 start a;engine 1 start a joinin;engine 2 start a joinout;"
                + "a:in null 1;mov isr not null;push;jmp a;");
        for (int i = 1; i <= 4; i++) {
            Checks.due("put", x.put(0, -i), i);
        }
        Checks.due("put into a full queue", x.put(0, 9), -2);
        Checks.due("queueSize", x.queueSize(0, false), 4);
        Checks.due("queued", x.queued(0, false, 3), 0xFFFFFFFCL);
        for (int i = 1; i <= 8; i++) {
            Checks.due("put into a joined input", x.put(1, i), i);
        }
        Checks.due("put into a full joined input", x.put(1, 9), -2);
        Checks.due("put into a joined output", x.put(2, 9), -2);
        Checks.due("take from an empty queue", x.take(0), -2);
        x.run(3);
        Checks.due("take", x.take(0), 4294967295L);
        Checks.due("take from an empty queue", x.take(0), -2);
        Checks.due("take from a queue for 0 words", x.take(1), -2);
        x.run(100);
        for (int i = 0; i < 8; i++) {
            Checks.due("take from a joined output", x.take(2), 4294967295L);
        }
        Checks.due("take from an empty queue", x.take(2), -2);
        // In and out many times, so that the ends of the queue come round.
        PinEngines y = Checks.loaded("engine 0 start a;a:pull;in osr 32;push;");
        for (int i = 0; i < 50; i++) {
            y.put(0, i);
            y.put(0, i + 1000);
            y.run(6);
            Checks.due("take", y.take(0), i);
            Checks.due("take", y.take(0), i + 1000);
        }
    }

    private static void enabling() {
        PinEngines x = Checks.loaded("engine 1 start a;engine 2 start a;a:set x 5 delay 3;pull;");
        Checks.due("enable of an enabled engine", x.enable(1, true), true);
        Checks.due("enable with false", x.enable(1, false), true);
        Checks.due("isEnabled", x.isEnabled(1), false);
        Checks.due("enable of a disabled engine with false", x.enable(1, false), false);
        Checks.due("run of the other engine", x.run(2), 1);
        Checks.due("pc of the disabled engine", x.pc(1), 0);
        Checks.due("enable with true", x.enable(1, true), false);
        Checks.due("isEnabled", x.isEnabled(1), true);
        x.enable(2, false);
        Checks.due("run", x.run(2), 1);
        Checks.due("delayLeft of the disabled engine", x.delayLeft(2), 2);
        Checks.due("delayLeft of the enabled engine", x.delayLeft(1), 2);
    }

    private static void restarting() {
        PinEngines x = Checks.loaded("engine 0 start b clock 2 0 sidepins 0 1;a:pull side 1;b:set x 5;mov y not x;"
                + "mov isr x;in x 3;mov osr y;out null 3;push;jmp a delay 7;");
        x.put(0, 5);
        x.put(0, 6);
        x.run(16);
        Checks.due("pc", x.pc(0), 0);
        Checks.due("delayLeft", x.delayLeft(0), 7);
        Checks.due("queueSize", x.queueSize(0, true), 1);
        x.enable(0, false);
        Checks.due("restart", x.restart(0), 0);
        Checks.due("pc", x.pc(0), 1);
        for (int which = 0; which < 4; which++) {
            Checks.due("register " + which, x.register(0, which), 0);
        }
        Checks.due("fill", x.fill(0), 0);
        Checks.due("spent", x.spent(0), 32);
        Checks.due("delayLeft", x.delayLeft(0), 0);
        Checks.due("queueSize", x.queueSize(0, false) + x.queueSize(0, true), 0);
        Checks.due("isEnabled stays", x.isEnabled(0), false);
        Checks.due("the counts stay", x.count(0, 0), 8);
        x.enable(0, true);
        Checks.due("the counter is as at first", x.run(1), 1);
        PinEngines half = Checks.loaded("engine 0 start a;a:mov osr not null;in osr 9;out x 5;mov y x;pull;");
        half.run(6);
        Checks.due("I before restart", half.register(0, 2), 0x1FF << 23);
        half.restart(0);
        for (int which = 0; which < 4; which++) {
            Checks.due("register " + which + " after restart", half.register(0, which), 0);
        }
        Checks.due("fill after restart", half.fill(0), 0);
        Checks.due("spent after restart", half.spent(0), 32);
        Checks.due("stall after restart", half.stall(0), 0);
        PinEngines y = Checks.loaded("engine 0 start a sidepins 0 1;a:pull side 1;");
        y.run(3);
        Checks.due("restart of a stalled engine", y.restart(0), 0);
        Checks.due("stall", y.stall(0), 0);
        Checks.due("the pins stay", y.latch(0), 1);
        y.put(0, 1);
        Checks.due("restart", y.run(1), 1);
        Checks.due("restart answers the pc", Checks.loaded("engine 0 start b;a:push;b:push;").restart(0), 1);
    }

    private static void driving() {
        PinEngines x = Checks.loaded("engine 0 start a setpins 5 1;a:set dirs 1;set pins 1;push;");
        Checks.due("drive", x.drive(5, 1), 1);
        Checks.due("level", x.level(5), 1);
        Checks.due("drive", x.drive(5, 0), 0);
        Checks.due("drive", x.drive(15, 1), 1);
        x.drive(5, 1);
        x.run(1);
        Checks.due("drive of an output", x.drive(5, 1), 0);
        x.run(1);
        Checks.due("drive of an output", x.drive(5, 0), 1);
        Checks.noSuchElement("drive(16, 0)", () -> x.drive(16, 0));
        Checks.noSuchElement("drive(-1, 2)", () -> x.drive(-1, 2));
        Checks.illegalArgument("drive(0, 2)", () -> x.drive(0, 2));
        Checks.illegalArgument("drive(0, -1)", () -> x.drive(0, -1));
        Checks.illegalArgument("drive(0, MIN_VALUE)", () -> x.drive(0, Integer.MIN_VALUE));
    }

    private static void scheduling() {
        PinEngines x = new PinEngines();
        x.run(10);
        for (int i = 1; i <= 31; i++) {
            Checks.due("schedule", x.schedule(10 + i, 0, 1), i);
        }
        Checks.due("schedule at 1000000", x.schedule(1000000, 0, 1), 32);
        Checks.due("schedule of the 33rd", x.schedule(10, 0, 1), -2);
        Checks.due("undoCount is not changed by it", x.undoCount(), 10);
        x.run(2);
        Checks.due("schedule after one is applied", x.schedule(12, 3, 1), 32);
        x.run(1);
        Checks.due("level", x.level(3), 1);
        Checks.due("schedule", x.schedule(13, 3, 0), 31);
        Checks.noSuchElement("schedule(0, 16, 5)", () -> x.schedule(0, 16, 5));
        Checks.noSuchElement("schedule(13, -1, 0)", () -> x.schedule(13, -1, 0));
        Checks.illegalArgument("schedule before the clock", () -> x.schedule(12, 0, 0));
        Checks.illegalArgument("schedule after 1000000", () -> x.schedule(1000001, 0, 0));
        Checks.illegalArgument("schedule(MIN_VALUE, 0, 0)", () -> x.schedule(Integer.MIN_VALUE, 0, 0));
        Checks.illegalArgument("schedule(MAX_VALUE, 0, 0)", () -> x.schedule(Integer.MAX_VALUE, 0, 0));
        Checks.illegalArgument("schedule of the level 2", () -> x.schedule(13, 0, 2));
        Checks.illegalArgument("schedule of the level -1", () -> x.schedule(13, 0, -1));
        x.schedule(13, 3, 0);
        Checks.illegalArgument("schedule of a wrong level when there are 32", () -> x.schedule(13, 0, 2));
    }

    private static void poking() {
        PinEngines x = new PinEngines();
        Checks.due("poke", x.poke(0, Integer.MIN_VALUE), 0);
        Checks.due("poke", x.poke(0, 8), Integer.MIN_VALUE);
        Checks.due("memory", x.memory(0), 8);
        Checks.noSuchElement("poke(16, 0)", () -> x.poke(16, 0));
        Checks.noSuchElement("poke(-1, 0)", () -> x.poke(-1, 0));
        Checks.noSuchElement("poke(MAX_VALUE, 0)", () -> x.poke(Integer.MAX_VALUE, 0));
    }

    private static void running() {
        PinEngines x = Checks.loaded("engine 0 start a;engine 1 start a;a:jmp a;");
        Checks.due("run(0)", x.run(0), 0);
        Checks.due("clock", x.clock(), 0);
        Checks.due("run(1000)", x.run(1000), 2000);
        Checks.due("clock", x.clock(), 1000);
        Checks.illegalArgument("run(1001)", () -> x.run(1001));
        Checks.illegalArgument("run(-1)", () -> x.run(-1));
        Checks.illegalArgument("run(MIN_VALUE)", () -> x.run(Integer.MIN_VALUE));
        Checks.illegalArgument("run(MAX_VALUE)", () -> x.run(Integer.MAX_VALUE));
        // More calls than the document speaks of, since the clock does not come to its end within them.
        PinEngines y = new PinEngines();
        y.schedule(1000000, 0, 1);
        for (int i = 0; i < 999; i++) {
            y.run(1000);
        }
        Checks.due("run(999)", y.run(999), 0);
        Checks.due("run beyond 1000000", y.run(2), -4);
        Checks.due("clock", y.clock(), 999999);
        Checks.due("run to 1000000", y.run(1), 0);
        Checks.due("run beyond 1000000", y.run(1), -4);
        Checks.due("run(0) at the end", y.run(0), 0);
        Checks.due("undo", y.undo(), 9);
        Checks.due("undo", y.undo(), 8);
        Checks.due("clock", y.clock(), 999999);
    }

    private static void undoing() {
        PinEngines x = new PinEngines();
        Checks.due("undo of nothing", x.undo(), PinEngines.NONE);
        for (int i = 1; i <= 13; i++) {
            x.poke(0, i);
            Checks.due("undoCount", x.undoCount(), Math.min(i, 10));
        }
        for (int i = 9; i >= 0; i--) {
            Checks.due("undo", x.undo(), i);
            Checks.due("memory", x.memory(0), i + 3);
        }
        Checks.due("undo of nothing", x.undo(), PinEngines.NONE);
        Checks.due("memory", x.memory(0), 3);
        x.poke(0, 20);
        x.poke(0, 21);
        Checks.due("undo", x.undo(), 1);
        x.poke(0, 22);
        Checks.due("undoCount", x.undoCount(), 2);
        Checks.due("undo", x.undo(), 1);
        Checks.due("memory", x.memory(0), 20);
        Checks.due("undo", x.undo(), 0);
        Checks.due("memory", x.memory(0), 3);
    }

    private static void undoneOperations() {
        PinEngines x = Checks.loaded(BUSY);
        x.put(1, 0x12345678);
        x.put(1, 0x55AA55AA);
        x.put(2, 3);
        for (int round = 0; round < 12; round++) {
            for (int what = 0; what < 9; what++) {
                String before = Checks.state(x);
                int count = x.undoCount();
                if (operate(x, what, round)) {
                    Checks.due("undo of operation " + what, x.undo(), Math.min(count, 9));
                    Checks.due("the state after undo of operation " + what, Checks.state(x), before);
                    operate(x, what, round);
                }
            }
            x.schedule(x.clock() + 5, 4, round & 1);
            x.run(11 + round);
        }
        PinEngines words = Checks.loaded("engine 0 start a joinin;a:pull;");
        for (int i = 0; i < 8; i++) {
            words.put(0, i);
        }
        words.run(3);
        String full = Checks.state(words);
        words.put(0, 8);
        words.put(0, 9);
        words.restart(0);
        for (int i = 0; i < 5; i++) {
            words.put(0, 100 + i);
        }
        for (int i = 0; i < 8; i++) {
            words.undo();
        }
        Checks.due("the words in the queues are restored", Checks.state(words), full);
        // What was done twice, with an undo between, ends in the same state: the counters are restored too.
        x.saveSnapshot();
        x.run(40);
        String first = Checks.state(x);
        x.undo();
        x.run(40);
        Checks.due("run after undo", Checks.state(x), first);
        x.restoreSnapshot();
        x.run(40);
        Checks.due("run after restoreSnapshot", Checks.state(x), first);
    }

    /** Returns whether the operation is recorded. */
    private static boolean operate(PinEngines x, int what, int round) {
        switch (what) {
            case 0:
                return x.put(1, round * 0x1234567) > 0;
            case 1:
                return x.take(0) >= 0;
            case 2:
                x.enable(2, round % 3 != 0);
                return true;
            case 3:
                x.restart(round % 3);
                return true;
            case 4:
                x.drive(9, round & 1);
                return true;
            case 5:
                return x.schedule(x.clock() + round, 4, 1) > 0;
            case 6:
                x.poke(3, -round);
                return true;
            case 7:
                x.run(round * 7 + 1);
                return true;
            default:
                x.run(0);
                return true;
        }
    }

    private static void failedCallsAreNotRecorded() {
        PinEngines x = Checks.loaded(BUSY);
        for (int i = 0; i < 4; i++) {
            x.put(0, i);
        }
        String before = Checks.state(x);
        x.put(0, 5);
        x.take(0);
        x.take(2);
        for (int what = 0; what < 10; what++) {
            wrongCall(x, what);
        }
        Checks.due("the state after failed calls", Checks.state(x), before);
        Checks.due("undoCount after failed calls", x.undoCount(), 4);
        // Successful calls are recorded even if they change nothing.
        x.enable(0, true);
        x.drive(9, 1);
        x.poke(0, 0);
        x.run(0);
        x.restart(1);
        Checks.due("the state after calls that change nothing", Checks.state(x), before);
        Checks.due("undoCount after calls that change nothing", x.undoCount(), 9);
    }

    private static void wrongCall(PinEngines x, int what) {
        try {
            switch (what) {
                case 0: x.put(3, 1); break;
                case 1: x.take(3); break;
                case 2: x.enable(3, true); break;
                case 3: x.restart(-1); break;
                case 4: x.drive(16, 1); break;
                case 5: x.drive(1, 2); break;
                case 6: x.schedule(-1, 1, 1); break;
                case 7: x.poke(16, 1); break;
                case 8: x.run(1001); break;
                default: x.schedule(1, 1, 2); break;
            }
            Checks.due("a wrong call throws", 0, 1);
        } catch (java.util.NoSuchElementException | IllegalArgumentException e) {
            Checks.due("a wrong call throws", 1, 1);
        }
    }

    private static void snapshots() {
        PinEngines x = Checks.loaded(BUSY);
        Checks.due("restoreSnapshot without one", x.restoreSnapshot(), false);
        x.run(9);
        x.put(1, 7);
        Checks.due("restoreSnapshot without one", x.restoreSnapshot(), false);
        Checks.due("it changes nothing", x.undoCount(), 2);
        String saved = Checks.state(x);
        x.saveSnapshot();
        Checks.due("saveSnapshot keeps the history", x.undoCount(), 2);
        x.undo();
        x.undo();
        Checks.due("restoreSnapshot after undo", x.restoreSnapshot(), true);
        Checks.due("the restored state", Checks.state(x), saved);
        Checks.due("restoreSnapshot clears the history", x.undoCount(), 0);
        Checks.due("undo", x.undo(), PinEngines.NONE);
        x.run(30);
        x.schedule(60, 3, 1);
        x.enable(1, false);
        Checks.due("the snapshot is kept", x.restoreSnapshot(), true);
        Checks.due("the restored state", Checks.state(x), saved);
        Checks.due("restoreSnapshot clears the history", x.undoCount(), 0);
        Checks.due("undo", x.undo(), PinEngines.NONE);
        x.run(5);
        String later = Checks.state(x);
        x.saveSnapshot();
        x.run(5);
        x.restoreSnapshot();
        Checks.due("it replaces an earlier one", Checks.state(x), later);
        PinEngines y = new PinEngines();
        y.saveSnapshot();
        y.poke(1, 1);
        Checks.due("a snapshot before any load", y.restoreSnapshot(), true);
        Checks.due("memory", y.memory(1), 0);
        Checks.load(y, "push;");
        Checks.due("load discards it", y.restoreSnapshot(), false);
    }
}
