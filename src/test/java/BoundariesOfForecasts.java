/** Promises 35 to 41: looking ahead on a copy, divider and format. */
final class BoundariesOfForecasts {
    private BoundariesOfForecasts() {
    }

    /** Pin 0 is low at first, and high after 3, 8, 13, ... cycles for two cycles. */
    private static PinEngines pulses() {
        PinEngines x = Checks.loaded("engine 0 start a setpins 0 1 wrap b c;engine 3 start d;"
                + "a:set dirs 1;push;b:set pins 1 delay 1;c:set pins 0 delay 2;d:pull;");
        x.put(0, 5);
        return x;
    }

    private static PinEngines twoEngines() {
        PinEngines x = Checks.loaded("level 4 1;engine 3 start b;engine 0 start a;a:push;pull;b:set x 5;wait 1 pin 9;");
        x.run(3);
        return x;
    }

    @Sentence(of = "Promise 35", says = "Returns the least number of cycles, 0 to limit, "
            + "after which the level of the pin is this one; NONE if there is none.")
    static void cyclesUntilAtTheLimit() {
        PinEngines x = pulses();
        String before = Checks.brief(x);
        Checks.due("the level now, limit 0", x.cyclesUntil(0, 0, 0), 0);
        Checks.due("the level now, limit 2000", x.cyclesUntil(0, 0, 2000), 0);
        Checks.due("another level, limit 0", x.cyclesUntil(0, 1, 0), PinEngines.NONE);
        Checks.due("another level, one cycle too few", x.cyclesUntil(0, 1, 2), PinEngines.NONE);
        Checks.due("another level, just enough cycles", x.cyclesUntil(0, 1, 3), 3);
        Checks.due("another level, one cycle more", x.cyclesUntil(0, 1, 4), 3);
        Checks.due("another level, limit 2000", x.cyclesUntil(0, 1, 2000), 3);
        Checks.due("a level that never comes", x.cyclesUntil(15, 1, 2000), PinEngines.NONE);
        Checks.due("the state after it", Checks.brief(x), before);
        x.schedule(1999, 15, 1);
        Checks.due("after 2000 cycles", x.cyclesUntil(15, 1, 2000), 2000);
        Checks.due("after 2000 cycles, limit 1999", x.cyclesUntil(15, 1, 1999), PinEngines.NONE);
        PinEngines late = new PinEngines();
        late.schedule(2000, 15, 1);
        Checks.due("after 2001 cycles", late.cyclesUntil(15, 1, 2000), PinEngines.NONE);
    }

    @Sentence(of = "Promise 35", says = "Throws `NoSuchElementException` if there is no such pin (checked first)")
    static void cyclesUntilOfNoPin() {
        Range.ofElements(twoEngines(), 0, 15, (x, pin) -> x.cyclesUntil(pin, 1, 5));
        PinEngines x = twoEngines();
        Checks.noSuchElement("cyclesUntil(16, 2, 5)", () -> x.cyclesUntil(16, 2, 5));
        Checks.noSuchElement("cyclesUntil(-1, 1, 2001)", () -> x.cyclesUntil(-1, 1, 2001));
    }

    @Sentence(of = "Promise 35", says = "Throws `IllegalArgumentException` if level is not 0 or 1, or limit is out of range")
    static void cyclesUntilOfNoLevel() {
        Range.ofArguments(twoEngines(), 0, 1, (x, level) -> x.cyclesUntil(0, level, 5));
        Range.ofArguments(twoEngines(), 0, 1, (x, level) -> x.cyclesUntil(15, level, 0));
        Range.ofArguments(twoEngines(), 0, 2000, (x, limit) -> x.cyclesUntil(0, 0, limit));
        Range.ofArguments(twoEngines(), 0, 2000, (x, limit) -> x.cyclesUntil(15, 1, limit));
    }

    @Sentence(of = "Promise 35", says = "0 to 2000")
    static void cyclesUntilLimits() {
        PinEngines x = new PinEngines();
        Checks.due("limit 0", x.cyclesUntil(0, 0, 0), 0);
        Checks.due("limit 2000", x.cyclesUntil(0, 1, 2000), PinEngines.NONE);
        Checks.illegalArgument("limit 2001", () -> x.cyclesUntil(0, 0, 2001));
        Checks.illegalArgument("limit -1", () -> x.cyclesUntil(0, 0, -1));
    }

    @Sentence(of = "Promise 36", says = "Returns the least number of cycles, 0 to limit, after which its pc is this address; "
            + "NONE if there is none.")
    static void cyclesToAtTheLimit() {
        PinEngines x = pulses();
        String before = Checks.brief(x);
        Checks.due("the address now, limit 0", x.cyclesTo(0, 0, 0), 0);
        Checks.due("another address, limit 0", x.cyclesTo(0, 1, 0), PinEngines.NONE);
        Checks.due("the next address, limit 1", x.cyclesTo(0, 1, 1), 1);
        Checks.due("address 3, one cycle too few", x.cyclesTo(0, 3, 2), PinEngines.NONE);
        Checks.due("address 3, just enough cycles", x.cyclesTo(0, 3, 3), 3);
        Checks.due("the last address", x.cyclesTo(3, 4, 0), 0);
        Checks.due("an address that never comes", x.cyclesTo(0, 4, 2000), PinEngines.NONE);
        Checks.due("the state after it", Checks.brief(x), before);
        PinEngines slow = Checks.engine("", "wait 1 pin 0;push;");
        slow.schedule(1999, 0, 1);
        Checks.due("after 2000 cycles", slow.cyclesTo(0, 1, 2000), 2000);
        Checks.due("after 2000 cycles, limit 1999", slow.cyclesTo(0, 1, 1999), PinEngines.NONE);
    }

    @Sentence(of = "Promise 36", says = "Throws `NoSuchElementException` if there is no such engine, "
            + "or no instruction with this address (checked first)")
    static void cyclesToNoEngineOrAddress() {
        Range.ofElements(twoEngines(), 0, 3, (x, engine) -> x.cyclesTo(engine, 0, 5));
        Range.ofElements(twoEngines(), 0, 3, (x, address) -> x.cyclesTo(0, address, 5));
        PinEngines x = twoEngines();
        Checks.noSuchElement("cyclesTo(1, 0, 5)", () -> x.cyclesTo(1, 0, 5));
        Checks.noSuchElement("cyclesTo(4, 0, 2001)", () -> x.cyclesTo(4, 0, 2001));
        Checks.noSuchElement("cyclesTo(0, 4, 2001)", () -> x.cyclesTo(0, 4, 2001));
        Checks.noSuchElement("cyclesTo(0, -1, -1)", () -> x.cyclesTo(0, -1, -1));
        Checks.noSuchElement("cyclesTo(0, 0, 0) of a new object", () -> new PinEngines().cyclesTo(0, 0, 0));
        PinEngines full = Checks.loaded("engine 0 start a;a:" + "push;".repeat(32));
        Range.ofElements(full, 0, 31, (y, address) -> y.cyclesTo(0, address, 5));
    }

    @Sentence(of = "Promise 36", says = "Throws `IllegalArgumentException` if limit is out of range")
    static void cyclesToOfNoLimit() {
        Range.ofArguments(twoEngines(), 0, 2000, (x, limit) -> x.cyclesTo(0, 0, limit));
        Range.ofArguments(twoEngines(), 0, 2000, (x, limit) -> x.cyclesTo(3, 3, limit));
    }

    @Sentence(of = "Promise 36", says = "0 to 2000")
    static void cyclesToLimits() {
        PinEngines x = Checks.engine("", "pull;push;");
        Checks.due("limit 0", x.cyclesTo(0, 0, 0), 0);
        Checks.due("limit 2000", x.cyclesTo(0, 1, 2000), PinEngines.NONE);
        Checks.illegalArgument("limit 2001", () -> x.cyclesTo(0, 0, 2001));
        Checks.illegalArgument("limit -1", () -> x.cyclesTo(0, 0, -1));
    }

    @Sentence(of = "Promise 37", says = "Returns this number; NONE if there are less than two rising edges in the next limit cycles.")
    static void periodAtTheLimit() {
        PinEngines x = pulses();
        String before = Checks.brief(x);
        Checks.due("limit 0", x.period(0, 0), PinEngines.NONE);
        Checks.due("one rising edge", x.period(0, 3), PinEngines.NONE);
        Checks.due("one cycle too few", x.period(0, 7), PinEngines.NONE);
        Checks.due("just enough cycles", x.period(0, 8), 5);
        Checks.due("limit 2000", x.period(0, 2000), 5);
        Checks.due("no rising edge", x.period(15, 2000), PinEngines.NONE);
        Checks.due("the state after it", Checks.brief(x), before);
        PinEngines far = new PinEngines();
        far.schedule(0, 15, 1);
        far.schedule(5, 15, 0);
        far.schedule(1999, 15, 1);
        Checks.due("the first cycle and the 2000th", far.period(15, 2000), 1999);
        Checks.due("limit 1999", far.period(15, 1999), PinEngines.NONE);
    }

    @Sentence(of = "Promise 37", says = "A rising edge is at the end of a cycle at which the level is 1, "
            + "and was 0 at the end of the cycle before (now, for the first cycle).")
    static void risingEdgeOfTheFirstCycle() {
        PinEngines x = new PinEngines();
        x.schedule(0, 0, 1);
        x.schedule(1, 0, 0);
        x.schedule(2, 0, 1);
        Checks.due("from 0 now", x.period(0, 3), 2);
        x.drive(0, 1);
        Checks.due("from 1 now", x.period(0, 3), PinEngines.NONE);
        x.undo();
        x.run(1);
        x.drive(0, 0);
        x.schedule(1, 0, 1);
        x.schedule(4, 0, 0);
        x.schedule(5, 0, 1);
        Checks.due("now, and not at the end of the cycle before", x.period(0, 10), 4);
    }

    @Sentence(of = "Promise 37", says = "Throws `NoSuchElementException` if there is no such pin (checked first)")
    static void periodOfNoPin() {
        Range.ofElements(twoEngines(), 0, 15, (x, pin) -> x.period(pin, 5));
        PinEngines x = twoEngines();
        Checks.noSuchElement("period(16, 2001)", () -> x.period(16, 2001));
        Checks.noSuchElement("period(-1, -1)", () -> x.period(-1, -1));
    }

    @Sentence(of = "Promise 37", says = "Throws `IllegalArgumentException` if limit is out of range")
    static void periodOfNoLimit() {
        Range.ofArguments(twoEngines(), 0, 2000, (x, limit) -> x.period(0, limit));
        Range.ofArguments(twoEngines(), 0, 2000, (x, limit) -> x.period(15, limit));
    }

    @Sentence(of = "Promise 37", says = "0 to 2000")
    static void periodLimits() {
        PinEngines x = new PinEngines();
        Checks.due("limit 0", x.period(0, 0), PinEngines.NONE);
        Checks.due("limit 2000", x.period(0, 2000), PinEngines.NONE);
        Checks.illegalArgument("limit 2001", () -> x.period(0, 2001));
        Checks.illegalArgument("limit -1", () -> x.period(0, -1));
    }

    @Sentence(of = "Promise 38", says = "Finds the enabled engines that do not complete any instruction in the next cycles, "
            + "on a copy.")
    static void stuckAtTheLimit() {
        PinEngines x = Checks.loaded("engine 0 start a;engine 1 start b;engine 2 start c;engine 3 start c;"
                + "a:push delay 31;push;b:wait 1 pin 3;c:pull;");
        x.enable(2, false);
        x.schedule(1999, 3, 1);
        String before = Checks.brief(x);
        Checks.due("limit 0: all that are enabled", x.stuck(0), 0b1011);
        Checks.due("limit 1", x.stuck(1), 0b1010);
        Checks.due("limit 1999", x.stuck(1999), 0b1010);
        Checks.due("limit 2000", x.stuck(2000), 0b1000);
        Checks.due("the state after it", Checks.brief(x), before);
        x.run(1);
        Checks.due("31 delay ticks", x.stuck(31), 0b1011);
        Checks.due("and one more cycle", x.stuck(32), 0b1010);
        Checks.due("of a new object", new PinEngines().stuck(2000), 0);
    }

    @Sentence(of = "Promise 38", says = "Throws `IllegalArgumentException` if limit is out of range")
    static void stuckOfNoLimit() {
        Range.ofArguments(twoEngines(), 0, 2000, (x, limit) -> x.stuck(limit));
        Range.ofArguments(new PinEngines(), 0, 2000, (x, limit) -> x.stuck(limit));
    }

    @Sentence(of = "Promise 38", says = "0 to 2000")
    static void stuckLimits() {
        PinEngines x = Checks.engine("", "pull;");
        Checks.due("limit 0", x.stuck(0), 1);
        Checks.due("limit 2000", x.stuck(2000), 1);
        Checks.illegalArgument("limit 2001", () -> x.stuck(2001));
        Checks.illegalArgument("limit -1", () -> x.stuck(-1));
    }

    @Sentence(of = "Promise 39", says = "Throws `IllegalArgumentException` if a parameter is out of range")
    static void dividerOutOfRange() {
        Range.ofArguments(twoEngines(), 1, 1000000, (x, cycles) -> x.divider(cycles, 1));
        Range.ofArguments(twoEngines(), 1, 1000000, (x, cycles) -> x.divider(cycles, 1000000));
        Range.ofArguments(twoEngines(), 1, 1000000, (x, ticks) -> x.divider(1, ticks));
        Range.ofArguments(twoEngines(), 1, 1000000, (x, ticks) -> x.divider(1000000, ticks));
    }

    @Sentence(of = "Promise 39", says = "1 to 1000000")
    static void dividerOfTheEnds() {
        PinEngines x = new PinEngines();
        Checks.due("divider(1, 1)", x.divider(1, 1), 256);
        Checks.due("divider(1, 1000000)", x.divider(1, 1000000), 256);
        Checks.due("divider(1000000, 1)", x.divider(1000000, 1), 65535);
        Checks.due("divider(1000000, 1000000)", x.divider(1000000, 1000000), 256);
        Checks.illegalArgument("divider(0, 1)", () -> x.divider(0, 1));
        Checks.illegalArgument("divider(1, 0)", () -> x.divider(1, 0));
        Checks.illegalArgument("divider(1000001, 1)", () -> x.divider(1000001, 1));
        Checks.illegalArgument("divider(1, 1000001)", () -> x.divider(1, 1000001));
    }

    @Sentence(of = "Promise 39", says = "Returns the number 256 * n + f of a setting that is nearest to 256 * cycles / ticks "
            + "(compared exactly); on a tie the smaller one.")
    static void dividerTies() {
        PinEngines x = new PinEngines();
        Checks.due("256.5", x.divider(513, 512), 256);
        Checks.due("just above 256.5", x.divider(500977, 500000), 257);
        Checks.due("just below 256.5", x.divider(500976, 500000), 256);
        Checks.due("257.5", x.divider(515, 512), 257);
        Checks.due("65534.5", x.divider(131069, 512), 65534);
        Checks.due("65535", x.divider(65535, 256), 65535);
        Checks.due("65535.5", x.divider(131071, 512), 65535);
        Checks.due("65536", x.divider(256, 1), 65535);
        Checks.due("65280", x.divider(255, 1), 65280);
        Checks.due("255", x.divider(255, 256), 256);
        Checks.due("255.5", x.divider(511, 512), 256);
        Checks.due("0.000256", x.divider(1, 1000000), 256);
        Checks.due("256.5 of great numbers", x.divider(974700, 972800), 256);
        Checks.due("just above it", x.divider(974701, 972800), 257);
        Checks.due("just below it", x.divider(974699, 972800), 256);
    }

    @Sentence(of = "Promise 40", says = "Throws `NoSuchElementException` if there is no such instruction")
    static void formatOfNoInstruction() {
        Range.ofElements(twoEngines(), 0, 3, (x, address) -> x.format(address));
        Range.ofElements(Checks.loaded("push;".repeat(32)), 0, 31, (x, address) -> x.format(address));
        Checks.noSuchElement("format(0) of a new object", () -> new PinEngines().format(0));
        PinEngines x = Checks.loaded("push;push;");
        Checks.load(x, "push;");
        Checks.noSuchElement("format(1) of a shorter program", () -> x.format(1));
    }

    @Sentence(of = "Promise 40", says = "then ' side ' and the value if it has one, and ' delay ' and the ticks if they are not 0.")
    static void formatOfSideAndDelay() {
        String[] texts = {"push", "push side 0", "push side 15", "push delay 1", "push delay 31", "push side 0 delay 1",
            "push side 15 delay 31"};
        for (String text : texts) {
            PinEngines x = Checks.loaded(text + ";");
            Checks.due("format", Checks.format(x, 0), text);
        }
        Checks.due("delay 0", Checks.format(Checks.loaded("push delay 0;"), 0), "push");
        Checks.due("side 0 delay 0", Checks.format(Checks.loaded("push side 0 delay 0;"), 0), "push side 0");
    }

    @Sentence(of = "Promise 40", says = "Numbers have no leading zeros.")
    static void formatOfNumbers() {
        PinEngines x = Checks.loaded("in x 0032 side 0015 delay 0031;set x 000;wait 00 pin 010;load x 00;"
                + "jmp z;" + "push;".repeat(26) + "z:mov isr reverse status side 00010 delay 00010;");
        String[] due = {"in x 32 side 15 delay 31", "set x 0", "wait 0 pin 10", "load x 0", "jmp 31"};
        for (int address = 0; address < due.length; address++) {
            Checks.due("format", Checks.format(x, address), due[address]);
        }
        Checks.due("format", Checks.format(x, 31), "mov isr reverse status side 10 delay 10");
    }

    @Sentence(of = "Promise 40", says = "Returns the number of bytes of the text.")
    static void formatOfShortAndLongTexts() {
        String longest = "mov osr reverse status side 15 delay 31";
        PinEngines x = Checks.loaded("push;" + longest + ";jmp a;" + "a:pull;");
        Checks.due("format(0)", x.format(0), 4);
        Checks.due("format(1)", x.format(1), longest.length());
        Checks.due("format(2)", x.format(2), 5);
        Checks.due("format(3)", x.format(3), 4);
    }

    @Sentence(of = "Promise 40", says = "Formats an instruction as text: its words and numbers as in the grammar, "
            + "with one ' ' between them; the address in place of a name;")
    static void formatOfAddresses() {
        PinEngines x = Checks.loaded("a:jmp xdec z;jmp a;push  iffull\n noblock;" + "push;".repeat(28) + "z:jmp more a;");
        Checks.due("format(0)", Checks.format(x, 0), "jmp xdec 31");
        Checks.due("format(1)", Checks.format(x, 1), "jmp 0");
        Checks.due("format(2)", Checks.format(x, 2), "push iffull noblock");
        Checks.due("format(31)", Checks.format(x, 31), "jmp more 0");
    }

    @Sentence(of = "Promise 41", says = "Returns the byte at index of the text of the most recent call of format, "
            + "as it was then; NONE if index is out of range or there was no such call.")
    static void formattedByteAtTheEnds() {
        PinEngines x = new PinEngines();
        Checks.due("formattedByte(0) without a call", x.formattedByte(0), PinEngines.NONE);
        Checks.load(x, "pull ifempty noblock side 15 delay 31;push;");
        Checks.due("formattedByte(0) without a call", x.formattedByte(0), PinEngines.NONE);
        Checks.due("format", x.format(0), 37);
        Checks.due("the first byte", x.formattedByte(0), 'p');
        Checks.due("the last byte", x.formattedByte(36), '1');
        for (int index : new int[] {-1, 37, 38, Integer.MIN_VALUE, Integer.MAX_VALUE}) {
            Checks.due("formattedByte(" + index + ")", x.formattedByte(index), PinEngines.NONE);
        }
        Checks.due("format of a shorter one", x.format(1), 4);
        Checks.due("the last byte", x.formattedByte(3), 'h');
        Checks.due("the byte behind it", x.formattedByte(4), PinEngines.NONE);
    }

    @Sentence(of = "Promise 41", says = "of the most recent call of format, as it was then;")
    static void formattedByteAfterOtherCalls() {
        PinEngines x = Checks.loaded("set x 31;pull;");
        x.format(0);
        Checks.load(x, "raise 0;");
        Checks.due("after load", x.formattedByte(0), 's');
        Checks.due("after load", x.formattedByte(7), '1');
        Checks.load(x, "!");
        x.run(5);
        x.undo();
        Checks.due("after undo", x.formattedByte(6), '3');
        Checks.noSuchElement("format(1)", () -> x.format(1));
        Checks.noSuchElement("format(-1)", () -> x.format(-1));
        Checks.due("after a call that throws", x.formattedByte(6), '3');
        Checks.due("after a call that throws", x.formattedByte(8), PinEngines.NONE);
        x.format(0);
        Checks.due("after a later call", x.formattedByte(6), '0');
        Checks.due("after a later call", x.formattedByte(7), PinEngines.NONE);
    }
}
