/** The order of things within a cycle, and the clock settings. */
final class BoundariesOfCycles {
    private BoundariesOfCycles() {
    }

    @Sentence(of = "One cycle", says = "The clock starts at 0.")
    static void clockStartsAt0() {
        Checks.due("the clock of a new object", new PinEngines().clock(), 0);
        PinEngines x = Checks.loaded("");
        Checks.due("the clock of a program", x.clock(), 0);
        x.run(3);
        Checks.load(x, "");
        Checks.due("the clock of a later program", x.clock(), 0);
    }

    @Sentence(of = "One cycle", says = "1. The scheduled levels of cycle c become outside levels, "
            + "in the order in which they were scheduled.")
    static void scheduledLevelsOfACycle() {
        PinEngines x = new PinEngines();
        x.schedule(1, 0, 1);
        x.schedule(0, 1, 1);
        x.schedule(1, 1, 0);
        x.schedule(1, 1, 1);
        x.schedule(1, 2, 1);
        x.schedule(1, 2, 0);
        x.schedule(0, 2, 1);
        Checks.due("the levels before", Checks.levels(x), 0);
        x.run(1);
        Checks.due("the levels after cycle 0", Checks.levels(x), 0b110);
        x.run(1);
        Checks.due("the levels after cycle 1", Checks.levels(x), 0b011);
        x.drive(0, 0);
        x.run(5);
        Checks.due("they are applied but once", Checks.levels(x), 0b010);
    }

    @Sentence(of = "One cycle", says = "1. The scheduled levels of cycle c become outside levels, "
            + "in the order in which they were scheduled.")
    static void scheduledLevelsOf32() {
        PinEngines x = new PinEngines();
        for (int i = 0; i < 32; i++) {
            Checks.due("schedule " + i, x.schedule(5, 15, i & 1), i + 1);
        }
        x.run(5);
        Checks.due("the level before cycle 5", x.level(15), 0);
        x.run(1);
        Checks.due("the level after cycle 5", x.level(15), 1);
        Checks.due("all are applied", x.schedule(6, 0, 1), 1);
    }

    @Sentence(of = "One cycle", says = "2. All levels and flags are read as they are now. "
            + "Whatever engines do in this cycle, they use these ones.")
    static void engineReadsBeforeAnyWrites() {
        PinEngines x = Checks.loaded("engine 0 start a setpins 0 1;engine 1 start b;engine 2 start d;"
                + "a:set dirs 1;set pins 1;raise 0;c:jmp c;b:in pins 1;in pins 1;in pins 1;jmp c;"
                + "d:push;push;wait 1 flag 0;jmp c;");
        x.run(2);
        Checks.due("the pin is read as it was", x.register(1, 2), 0);
        x.run(1);
        Checks.due("and in the next cycle as it is", x.register(1, 2), Integer.MIN_VALUE);
        Checks.due("the flag is read as it was", x.stall(2), 1);
        x.run(1);
        Checks.due("and in the next cycle as it is", x.stall(2), 0);
        PinEngines y = Checks.engine("", "wait 1 pin 7;push;");
        y.schedule(0, 7, 1);
        Checks.due("a scheduled level is read in its cycle", y.run(1), 1);
    }

    @Sentence(of = "One cycle", says = "3. Of the enabled engines that have a tick in this cycle, have no delay ticks left, "
            + "and whose instruction is load or store, one gets the port: the first one in the cyclic order of numbers, "
            + "beginning after the engine that got it last (at first with engine 0).")
    static void portGoesRound() {
        PinEngines x = Checks.loaded("engine 0 start a;engine 1 start a;engine 2 start a;engine 3 start a;a:load x 0;");
        for (int cycle = 0; cycle < 9; cycle++) {
            Checks.due("one of four gets the port", x.run(1), 1);
            Checks.due("the owner after cycle " + cycle, x.portOwner(), cycle % 4);
        }
        PinEngines y = Checks.loaded("engine 3 start a;engine 0 start b;a:load x 0;b:push;store x 0;c:push noblock;jmp b;");
        int[] owners = {3, 0, 3, 3, 3, 0, 3};
        for (int cycle = 0; cycle < owners.length; cycle++) {
            y.run(1);
            Checks.due("the owner after cycle " + cycle + " of engines 3 and 0", y.portOwner(), owners[cycle]);
        }
    }

    @Sentence(of = "One cycle", says = "(at first with engine 0).")
    static void portAtFirst() {
        PinEngines x = Checks.loaded("engine 3 start a;engine 2 start a;a:load x 0;");
        x.run(1);
        Checks.due("the first owner of engines 2 and 3", x.portOwner(), 2);
        PinEngines only = Checks.loaded("engine 3 start a;a:load x 0;");
        Checks.due("one engine gets the port in each cycle", only.run(9), 9);
        Checks.due("its number", only.portOwner(), 3);
        Checks.load(x, "engine 0 start a;engine 3 start a;a:store x 0;");
        x.run(1);
        Checks.due("the first owner after load", x.portOwner(), 0);
    }

    @Sentence(of = "One cycle", says = "have no delay ticks left")
    static void portWithDelayTicks() {
        PinEngines x = Checks.loaded("engine 0 start a;engine 1 start b wrap b b;a:push delay 1;load x 0;c:jmp c;"
                + "b:load x 1;");
        x.run(1);
        Checks.due("one delay tick is left", x.delayLeft(0), 1);
        x.run(1);
        Checks.due("none is left now", x.delayLeft(0), 0);
        Checks.due("the owner with a delay tick left", x.portOwner(), 1);
        Checks.due("no stall in it", x.count(0, 1) + x.count(1, 1), 0);
        x.run(1);
        Checks.due("the owner without one", x.portOwner(), 0);
        Checks.due("the other engine stalls", x.stall(1), 4);
    }

    @Sentence(of = "One cycle", says = "So a later one prevails.")
    static void laterWritePrevails() {
        PinEngines x = Checks.loaded("engine 0 start a setpins 0 3 sidepins 0 1;engine 3 start b setpins 1 3 sidepins 2 1;"
                + "a:set pins 7 side 0;c:set dirs 7;d:jmp d;b:set pins 0 side 1;e:set dirs 0;f:jmp f;");
        x.run(1);
        Checks.due("the output bits", Checks.latches(x), 0b100);
        x.run(1);
        Checks.due("the directions", Checks.outputs(x), 0b001);
    }

    @Sentence(of = "One cycle", says = "6. All flags that are cleared in this cycle become 0, "
            + "then all that are raised become 1.")
    static void raisedAndClearedAtOnce() {
        for (String order : new String[] {"raise 7;clear 7;", "clear 7;raise 7;"}) {
            int half = order.indexOf(';') + 1;
            PinEngines x = Checks.loaded("engine 0 start a;engine 1 start b;a:" + order.substring(0, half) + "c:jmp c;b:"
                    + order.substring(half) + "d:jmp d;");
            x.run(1);
            Checks.due("the flag after " + order, x.flag(7), 1);
            x.run(1);
            Checks.due("the flag stays", x.flag(7), 1);
        }
        PinEngines wait = Checks.loaded("engine 0 start a;engine 1 start b;a:push;wait 1 flag 0;c:jmp c;"
                + "b:raise 0;raise 0;d:jmp d;");
        wait.run(2);
        Checks.due("the wait is done", wait.pc(0), 2);
        Checks.due("its flag was raised again in the same cycle", wait.flag(0), 1);
    }

    @Sentence(of = "One cycle", says = "6. All flags that are cleared in this cycle become 0, "
            + "then all that are raised become 1.")
    static void allEnginesAtOnce() {
        PinEngines x = Checks.loaded("engine 0 start a;engine 1 start b;engine 2 start c;engine 3 start d;"
                + "a:raise 0;wait 1 flag 0;raise 0;clear 0;w:jmp w;"
                + "b:signal 1;jmp w;c:raise 2;clear 2;signal 2;jmp w;d:raise 7;clear 7;raise 7;wait 1 flag 7;jmp w;");
        int[] flags = {0, 0x87, 0x02, 0x87, 0x06};
        for (int cycle = 0; cycle < flags.length; cycle++) {
            Checks.due("the flags after " + cycle + " cycles", Checks.flags(x), flags[cycle]);
            x.run(1);
        }
    }

    @Sentence(of = "One cycle", says = "An engine with the clock setting (n, f) has the period 256 * n + f. It has a counter, "
            + "which is period - 256 at first; in every cycle in which it is enabled, 256 is added to the counter, "
            + "and if it is at least the period then, the period is subtracted, and the engine has a tick.")
    static void ticksOfClockSettings() {
        int[][] settings = {{1, 0}, {1, 1}, {1, 255}, {2, 0}, {2, 1}, {1, 128}, {3, 85}, {255, 0}, {254, 255}, {255, 255}};
        for (int[] setting : settings) {
            PinEngines x = Checks.engine("clock " + setting[0] + " " + setting[1], "jmp a;");
            int period = 256 * setting[0] + setting[1];
            int counter = period - 256;
            for (int cycle = 0; cycle < 500; cycle++) {
                counter += 256;
                int ticks = counter >= period ? 1 : 0;
                counter -= ticks * period;
                Checks.due("ticks in cycle " + cycle + " of the period " + period, x.run(1), ticks);
            }
        }
    }

    @Sentence(of = "One cycle", says = "It has a counter, which is period - 256 at first;")
    static void firstTickIsInCycle0() {
        for (String setting : new String[] {"1 0", "1 1", "1 255", "2 0", "255 0", "255 255"}) {
            PinEngines x = Checks.engine("clock " + setting, "jmp a;");
            Checks.due("ticks in cycle 0 with " + setting, x.run(1), 1);
        }
        PinEngines slow = Checks.engine("clock 255 255", "jmp a;");
        Checks.due("ticks in 256 cycles", slow.run(256), 1);
        Checks.due("ticks in cycle 256", slow.run(1), 1);
        PinEngines whole = Checks.engine("clock 255 0", "jmp a;");
        Checks.due("ticks in 255 cycles", whole.run(255), 1);
        Checks.due("ticks in cycle 255", whole.run(1), 1);
        PinEngines fast = Checks.engine("clock 1 1", "jmp a;");
        Checks.due("ticks in cycle 0", fast.run(1), 1);
        Checks.due("ticks in cycle 1, at 256 of 257", fast.run(1), 0);
        Checks.due("ticks in the next 256 cycles", fast.run(256), 256);
        Checks.due("ticks in the next one", fast.run(1), 0);
    }

    @Sentence(of = "One cycle", says = "7. The clock becomes c + 1.")
    static void clockGoesOnByOne() {
        PinEngines x = new PinEngines();
        for (int cycle = 0; cycle < 5; cycle++) {
            Checks.due("clock", x.clock(), cycle);
            x.run(1);
        }
    }
}
