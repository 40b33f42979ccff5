/** Promises 35 to 41: cyclesUntil, cyclesTo, period, stuck, divider, format, formattedByte. */
public final class ForecastTest {
    public static void main(String[] args) {
        cyclesUntil();
        cyclesTo();
        periods();
        stuck();
        onACopy();
        dividers();
        formats();
        formattedBytes();
        Checks.finish("ForecastTest");
    }

    private static void cyclesUntil() {
        PinEngines x = Checks.loaded("engine 0 start a setpins 0 1;a:set dirs 1;set pins 1 delay 9;set pins 0;b:jmp b;");
        Checks.due("cyclesUntil now", x.cyclesUntil(0, 0, 0), 0);
        Checks.due("cyclesUntil", x.cyclesUntil(0, 1, 2), 2);
        Checks.due("cyclesUntil with a limit too low", x.cyclesUntil(0, 1, 1), PinEngines.NONE);
        Checks.due("cyclesUntil(0, 1, 0)", x.cyclesUntil(0, 1, 0), PinEngines.NONE);
        x.run(2);
        Checks.due("cyclesUntil", x.cyclesUntil(0, 0, 2000), 10);
        Checks.due("cyclesUntil now", x.cyclesUntil(0, 1, 2000), 0);
        Checks.due("cyclesUntil never", x.cyclesUntil(5, 1, 2000), PinEngines.NONE);
        x.schedule(2001, 5, 1);
        Checks.due("cyclesUntil a scheduled level", x.cyclesUntil(5, 1, 2000), 2000);
        Checks.due("cyclesUntil a scheduled level", x.cyclesUntil(5, 1, 1999), PinEngines.NONE);
        x.drive(6, 1);
        Checks.due("cyclesUntil after a drive", x.cyclesUntil(6, 1, 5), 0);
        Checks.noSuchElement("cyclesUntil(16, 5, 0)", () -> x.cyclesUntil(16, 5, 0));
        Checks.noSuchElement("cyclesUntil(-1, 0, -1)", () -> x.cyclesUntil(-1, 0, -1));
        Checks.illegalArgument("cyclesUntil(0, 2, 0)", () -> x.cyclesUntil(0, 2, 0));
        Checks.illegalArgument("cyclesUntil(0, -1, 0)", () -> x.cyclesUntil(0, -1, 0));
        Checks.illegalArgument("cyclesUntil(0, 0, 2001)", () -> x.cyclesUntil(0, 0, 2001));
        Checks.illegalArgument("cyclesUntil(0, 0, -1)", () -> x.cyclesUntil(0, 0, -1));
        Checks.illegalArgument("cyclesUntil(0, 0, MAX_VALUE)", () -> x.cyclesUntil(0, 0, Integer.MAX_VALUE));
    }

    private static void cyclesTo() {
        PinEngines x = Checks.loaded("engine 1 start a clock 2 0;engine 2 start c;a:push delay 2;push;c:jmp c;");
        Checks.due("cyclesTo now", x.cyclesTo(1, 0, 0), 0);
        Checks.due("cyclesTo", x.cyclesTo(1, 1, 10), 1);
        Checks.due("cyclesTo", x.cyclesTo(1, 2, 10), 7);
        Checks.due("cyclesTo", x.cyclesTo(1, 2, 7), 7);
        Checks.due("cyclesTo with a limit too low", x.cyclesTo(1, 2, 6), PinEngines.NONE);
        Checks.due("cyclesTo never", x.cyclesTo(2, 0, 2000), PinEngines.NONE);
        Checks.noSuchElement("cyclesTo of an engine that is not there", () -> x.cyclesTo(0, 0, 0));
        Checks.noSuchElement("cyclesTo an address that is not there", () -> x.cyclesTo(1, 3, 0));
        Checks.noSuchElement("cyclesTo an address that is not there", () -> x.cyclesTo(1, -1, 5000));
        Checks.illegalArgument("cyclesTo with a limit of 2001", () -> x.cyclesTo(1, 0, 2001));
        Checks.illegalArgument("cyclesTo with a limit of -1", () -> x.cyclesTo(1, 0, -1));
    }

    private static void periods() {
        PinEngines x = Checks.loaded("engine 0 start a setpins 0 2 sidepins 2 1;"
                + "a:set dirs 1 side 0;b:set pins 1 side 1 delay 3;set pins 0 side 0 delay 2;jmp b;");
        // Pin 0 rises at the ends of the cycles 1, 9, 17: b takes 4 cycles, the next one 3, the jump 1.
        Checks.due("period", x.period(0, 2000), 8);
        Checks.due("period with just enough cycles", x.period(0, 10), 8);
        Checks.due("period with one cycle too few", x.period(0, 9), PinEngines.NONE);
        Checks.due("period(0, 0)", x.period(0, 0), PinEngines.NONE);
        Checks.due("period of an input", x.period(2, 2000), PinEngines.NONE);
        x.run(2);
        Checks.due("period when the level is 1 now", x.period(0, 2000), 8);
        Checks.due("period when the level is 1 now", x.period(0, 16), 8);
        Checks.due("period when the level is 1 now", x.period(0, 15), PinEngines.NONE);
        PinEngines y = new PinEngines();
        y.drive(3, 1);
        y.schedule(3, 3, 0);
        y.schedule(5, 3, 1);
        y.schedule(6, 3, 0);
        y.schedule(20, 3, 1);
        Checks.due("period of scheduled levels", y.period(3, 21), 15);
        Checks.due("period of scheduled levels", y.period(3, 20), PinEngines.NONE);
        PinEngines z = new PinEngines();
        z.run(4);
        z.drive(3, 1);
        z.drive(4, 1);
        z.drive(4, 0);
        z.schedule(4, 4, 1);
        z.schedule(6, 3, 0);
        z.schedule(6, 4, 0);
        z.schedule(9, 3, 1);
        z.schedule(9, 4, 1);
        Checks.due("a level that is driven now does not rise", z.period(3, 100), PinEngines.NONE);
        Checks.due("a level that rises in the first cycle", z.period(4, 100), 5);
        Checks.noSuchElement("period(16, -1)", () -> z.period(16, -1));
        Checks.noSuchElement("period(-1, 0)", () -> z.period(-1, 0));
        Checks.illegalArgument("period(0, 2001)", () -> z.period(0, 2001));
        Checks.illegalArgument("period(0, -1)", () -> z.period(0, -1));
    }

    private static void stuck() {
        PinEngines x = Checks.loaded("engine 0 start a;engine 1 start b clock 4 0;engine 2 start c;engine 3 start c;"
                + "a:pull;b:jmp b delay 9;c:wait 1 pin 2;push;");
        Checks.due("stuck(0)", x.stuck(0), 15);
        Checks.due("stuck(1)", x.stuck(1), 13);
        x.run(1);
        Checks.due("stuck within a delay", x.stuck(39), 15);
        Checks.due("stuck after a delay", x.stuck(40), 13);
        x.enable(3, false);
        Checks.due("stuck without disabled engines", x.stuck(2000), 5);
        x.schedule(500, 2, 1);
        Checks.due("stuck before a scheduled level", x.stuck(499), 5);
        Checks.due("stuck with a scheduled level", x.stuck(500), 1);
        PinEngines late = Checks.loaded("engine 0 start a;engine 1 start b;a:wait 1 pin 3;b:jmp b;");
        late.schedule(9, 3, 1);
        Checks.due("stuck before the last one goes on", late.stuck(9), 1);
        Checks.due("stuck when the last one goes on", late.stuck(10), 0);
        x.put(0, 4);
        Checks.due("stuck with a word", x.stuck(1), 6);
        PinEngines none = new PinEngines();
        Checks.due("stuck without engines", none.stuck(0), 0);
        Checks.illegalArgument("stuck(2001)", () -> none.stuck(2001));
        Checks.illegalArgument("stuck(-1)", () -> none.stuck(-1));
        Checks.illegalArgument("stuck(MIN_VALUE)", () -> none.stuck(Integer.MIN_VALUE));
    }

    private static void onACopy() {
        PinEngines x = Checks.loaded("engine 0 start a setpins 0 1;a:set dirs 1;pull;raise 1;store x 3;push;");
        x.put(0, 5);
        x.schedule(10, 9, 1);
        x.cyclesUntil(8, 1, 100);
        x.cyclesTo(0, 4, 100);
        x.period(9, 100);
        x.stuck(100);
        Checks.due("clock", x.clock(), 0);
        Checks.due("pc", x.pc(0), 0);
        Checks.due("outputs", Checks.outputs(x), 0);
        Checks.due("flags", Checks.flags(x), 0);
        Checks.due("queueSize", x.queueSize(0, false) * 10 + x.queueSize(0, true), 10);
        Checks.due("count", x.count(0, 0), 0);
        Checks.due("portOwner", x.portOwner(), PinEngines.NONE);
        Checks.due("undoCount", x.undoCount(), 2);
        Checks.due("levelAt", x.levelAt(0, 0), PinEngines.NONE);
        Checks.due("schedule", x.schedule(11, 9, 1), 2);
    }

    private static void dividers() {
        PinEngines x = new PinEngines();
        Checks.due("divider(1, 1)", x.divider(1, 1), 256);
        Checks.due("divider(1, 1000000)", x.divider(1, 1000000), 256);
        Checks.due("divider(1000000, 1000000)", x.divider(1000000, 1000000), 256);
        Checks.due("divider(255, 1)", x.divider(255, 1), 65280);
        Checks.due("divider(256, 1)", x.divider(256, 1), 65535);
        Checks.due("divider(1000000, 3906)", x.divider(1000000, 3906), 65535);
        Checks.due("divider(1000000, 3907)", x.divider(1000000, 3907), 65523);
        Checks.due("divider(4, 3): 341.33", x.divider(4, 3), 341);
        Checks.due("divider(5, 3): 426.67", x.divider(5, 3), 427);
        Checks.due("divider(513, 512): 256.5", x.divider(513, 512), 256);
        Checks.due("divider(515, 512): 257.5", x.divider(515, 512), 257);
        Checks.due("divider(514, 512): 257", x.divider(514, 512), 257);
        Checks.due("divider(1000000, 999999): 256.0003", x.divider(1000000, 999999), 256);
        Checks.due("divider(501954, 500000): just above 257", x.divider(501954, 500000), 257);
        Checks.due("divider(131071, 512): 65535.5", x.divider(131071, 512), 65535);
        Checks.due("divider(131069, 512): 65534.5", x.divider(131069, 512), 65534);
        int[][] wrong = {{0, 1}, {1, 0}, {-1, 1}, {1, -1}, {1000001, 1}, {1, 1000001}, {Integer.MIN_VALUE, 1},
            {Integer.MAX_VALUE, Integer.MAX_VALUE}, {0, 0}};
        for (int[] pair : wrong) {
            Checks.illegalArgument("divider(" + pair[0] + ", " + pair[1] + ")", () -> x.divider(pair[0], pair[1]));
        }
        long worst = 0;
        for (int cycles = 1; cycles <= 600; cycles += 7) {
            for (int ticks = 1; ticks <= 600; ticks += 5) {
                long best = 256;
                for (long setting = 256; setting <= 65535; setting++) {
                    long error = Math.abs(setting * ticks - 256L * cycles);
                    if (error < Math.abs(best * ticks - 256L * cycles)) {
                        best = setting;
                    }
                    if (setting * ticks > 256L * cycles) {
                        break;
                    }
                }
                worst = Math.max(worst, Math.abs(best - x.divider(cycles, ticks)));
            }
        }
        Checks.due("the difference from a search of all settings", worst, 0);
    }

    private static void formats() {
        String[] same = {"jmp 0", "jmp xzero 0", "jmp yzero 0", "jmp xdec 0", "jmp ydec 0", "jmp differ 0", "jmp pin 0",
            "jmp more 0", "wait 0 pin 15", "wait 1 flag 7", "in pins 1", "in x 32", "in y 2", "in null 3", "in isr 4",
            "in osr 5", "out pins 1", "out x 2", "out y 3", "out null 4", "out dirs 5", "out pc 6", "out isr 32", "push",
            "push iffull", "push noblock", "push iffull noblock", "pull", "pull ifempty", "pull noblock",
            "pull ifempty noblock", "mov pins x", "mov x not y", "mov y reverse null", "mov pc status",
            "mov isr not isr", "mov osr reverse osr", "mov x pins", "raise 0", "clear 7", "signal 3", "set pins 0",
            "set dirs 31", "set x 5", "set y 6", "load x 0", "load y 15", "load osr x", "load x y", "store x 1",
            "store y x", "store isr y", "push side 0", "push side 15", "push delay 1", "push delay 31",
            "in x 32 side 4 delay 5", "mov x not y side 0 delay 9"};
        for (String text : same) {
            boolean jump = text.startsWith("jmp");
            String source = jump ? text.substring(0, text.length() - 1) + "a" : text;
            PinEngines x = Checks.loaded("a:" + source + ";");
            Checks.due("format", Checks.format(x, 0), text);
        }
        PinEngines x = Checks.loaded("push;lab:wait  01\npin 0015 side 007delay 0031;push delay 000;jmp\n more lab  side 00;"
                + "jmp end;pull;pull;pull;pull;pull;pull;end:set x 00;");
        Checks.due("format", Checks.format(x, 1), "wait 1 pin 15 side 7 delay 31");
        Checks.due("format of delay 0", Checks.format(x, 2), "push");
        Checks.due("format of side 0", Checks.format(x, 3), "jmp more 1 side 0");
        Checks.due("format of an address with two digits", Checks.format(x, 4), "jmp 11");
        Checks.due("format of the last one", Checks.format(x, 11), "set x 0");
        Checks.due("format", x.format(11), 7);
        Checks.noSuchElement("format(12)", () -> x.format(12));
        Checks.noSuchElement("format(-1)", () -> x.format(-1));
        Checks.noSuchElement("format(MAX_VALUE)", () -> x.format(Integer.MAX_VALUE));
    }

    private static void formattedBytes() {
        PinEngines x = new PinEngines();
        Checks.due("formattedByte before any format", x.formattedByte(0), PinEngines.NONE);
        Checks.load(x, "push;jmp a;a:pull noblock;");
        Checks.due("formattedByte before any format", x.formattedByte(0), PinEngines.NONE);
        x.format(1);
        Checks.due("formattedByte(0)", x.formattedByte(0), 'j');
        Checks.due("formattedByte(3)", x.formattedByte(3), ' ');
        Checks.due("formattedByte(4)", x.formattedByte(4), '2');
        Checks.due("formattedByte(5)", x.formattedByte(5), PinEngines.NONE);
        Checks.due("formattedByte(-1)", x.formattedByte(-1), PinEngines.NONE);
        Checks.due("formattedByte(MAX_VALUE)", x.formattedByte(Integer.MAX_VALUE), PinEngines.NONE);
        Checks.due("formattedByte(MIN_VALUE)", x.formattedByte(Integer.MIN_VALUE), PinEngines.NONE);
        x.format(2);
        Checks.due("formattedByte(11)", x.formattedByte(11), 'k');
        x.format(0);
        Checks.due("formattedByte of a shorter text", x.formattedByte(4), PinEngines.NONE);
        Checks.noSuchElement("format(3)", () -> x.format(3));
        Checks.due("formattedByte after an exception", x.formattedByte(1), 'u');
        Checks.load(x, "raise 1;");
        Checks.due("formattedByte after load", x.formattedByte(0), 'p');
    }
}
