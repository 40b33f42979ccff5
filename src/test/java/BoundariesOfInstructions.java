/** What a tick does: delays, side outputs, the next address, and each instruction at its ends. */
final class BoundariesOfInstructions {
    private static final int[] WORDS = {0, 1, 2, -1, -2, Integer.MIN_VALUE, Integer.MAX_VALUE, Integer.MIN_VALUE + 1,
        0x12345678, 0xABCDE123};

    private BoundariesOfInstructions() {
    }

    /** One engine whose memory at 0 is the word, so that programs can load it. */
    private static PinEngines withWord(String settings, int word, String instructions) {
        PinEngines x = Checks.engine(settings, instructions);
        x.poke(0, word);
        return x;
    }

    @Sentence(of = "Ticks", says = "If delay ticks are left, their number decreases by 1, and that is all.")
    static void delayTicks() {
        for (int delay : new int[] {0, 1, 2, 30, 31}) {
            PinEngines x = Checks.engine("sidepins 0 1", "set x 1 delay " + delay + ";b:set x 2 side 1;jmp b;");
            x.run(1);
            for (int left = delay; left > 0; left--) {
                Checks.due("delayLeft", x.delayLeft(0), left);
                Checks.due("a delay tick", x.run(1), 0);
                Checks.due("X, the output bit and the stalls", x.register(0, 0) + x.latch(0) + x.count(0, 1), 1);
            }
            Checks.due("delayLeft", x.delayLeft(0), 0);
            Checks.due("ticks spent with delays", x.count(0, 2), delay);
            Checks.due("the next instruction", x.run(1), 1);
            Checks.due("X", x.register(0, 0), 2);
            Checks.due("the side output", x.latch(0), 1);
        }
    }

    @Sentence(of = "Ticks", says = "If it is not stalled, and the instruction has a side value, "
            + "this value is written to its group for side outputs.")
    static void sideValues() {
        for (int side : new int[] {0, 1, 8, 15}) {
            PinEngines x = Checks.engine("sidepins 14 4 outpins 0 16", "mov pins not null;wait 1 pin 5 side " + side
                    + ";mov pins null;");
            x.run(2);
            int due = 0x3FFC | side << 14 & 0xC000 | side >> 2;
            Checks.due("the output bits at the first try of side " + side, Checks.latches(x), due);
            Checks.due("it stalls", x.stall(0), 1);
        }
        PinEngines none = Checks.engine("sidepins 14 4 outpins 0 16", "mov pins not null;push;");
        none.run(2);
        Checks.due("without a side value nothing is written", Checks.latches(none), 0xFFFF);
    }

    @Sentence(of = "Ticks", says = "If it is not stalled, and the instruction has a side value, "
            + "this value is written to its group for side outputs.")
    static void stalledEngineHasNoSideOutput() {
        PinEngines x = Checks.loaded("engine 0 start a sidepins 0 1;engine 1 start b setpins 0 1;a:pull side 1;push;"
                + "b:push;set pins 0;c:jmp c;");
        x.run(1);
        Checks.due("the first try writes", x.latch(0), 1);
        x.run(1);
        Checks.due("the second one does not", x.latch(0), 0);
        x.put(0, 5);
        Checks.due("the instruction is done", x.run(1), 2);
        Checks.due("and does not write", x.latch(0), 0);
    }

    @Sentence(of = "Ticks", says = "If the instruction cannot be completed, the engine is stalled with a reason, "
            + "and nothing else happens.")
    static void stallsChangeNothingElse() {
        String[] stalling = {"wait 1 pin 3 delay 9;", "wait 1 flag 3 delay 9;", "pull delay 9;", "out x 5 delay 9;"};
        for (String instruction : stalling) {
            PinEngines x = Checks.engine("autopull 5", "set x 9;mov osr x;out y 6;mov isr x;" + instruction);
            x.run(4);
            x.run(3);
            Checks.due("pc", x.pc(0), 4);
            Checks.due("stall", x.stall(0) > 0, true);
            Checks.due("delayLeft", x.delayLeft(0), 0);
            Checks.due("spent", x.spent(0), 6);
            int[] words = {9, 9, 9, 0};
            for (int which = 0; which < 4; which++) {
                Checks.due("register " + which, x.register(0, which), words[which]);
            }
            Checks.due("instructions done", x.count(0, 0), 4);
            Checks.due("ticks at which it could not be completed", x.count(0, 1), 3);
        }
    }

    @Sentence(of = "Ticks", says = "The next address is the bottom of its wrap if the pc is the top of its wrap;")
    static void wraps() {
        pcs("wrap a a", "a:push noblock;push;", 0, 0, 0);
        pcs("wrap b c", "a:push noblock;b:push noblock;c:push noblock;pull;", 0, 1, 2, 1, 2, 1);
        pcs("wrap a d", "a:push noblock;push noblock;push noblock;d:push noblock;", 0, 1, 2, 3, 0);
        pcs("wrap c d", "a:push noblock;push noblock;c:push noblock;d:push noblock;", 0, 1, 2, 3, 2, 3);
        pcs("wrap c a", "a:push noblock;push noblock;c:push noblock;push noblock;", 0, 2, 3, 0, 2);
        pcs("wrap a b", "a:push noblock;b:jmp xzero d;push;d:push noblock;", 0, 1, 3, 0);
        pcs("wrap a c", "a:set x 1;c:jmp xzero d;push;d:push;", 0, 1, 0, 1);
        pcs("wrap a b", "a:set y 3;b:mov pc y;push;d:push noblock;", 0, 1, 3, 0);
    }

    @Sentence(of = "Ticks", says = "otherwise pc + 1, or 0 after the last instruction.")
    static void nextAddresses() {
        pcs("", "a:push noblock;", 0, 0, 0);
        pcs("", "a:push noblock;push noblock;", 0, 1, 0, 1, 0);
        PinEngines x = Checks.loaded("engine 0 start z;" + "push noblock;".repeat(31) + "z:set x 1;");
        Checks.due("pc at the last of 32", x.pc(0), 31);
        x.run(1);
        Checks.due("pc after the last of 32", x.pc(0), 0);
        x.run(31);
        Checks.due("pc at the last of 32", x.pc(0), 31);
    }

    private static void pcs(String settings, String instructions, int... due) {
        PinEngines x = Checks.loaded("engine 0 start a " + settings + ";" + instructions);
        for (int cycle = 0; cycle < due.length; cycle++) {
            Checks.due("pc after " + cycle + " cycles of " + settings + " in " + instructions, x.pc(0), due[cycle]);
            x.run(1);
        }
    }

    @Sentence(of = "Ticks", says = "To set the pc to a word means: to the word taken as unsigned, "
            + "modulo the number of instructions.")
    static void pcIsModuloTheNumberOfInstructions() {
        for (int count : new int[] {4, 5, 7, 31, 32}) {
            String rest = "push;".repeat(count - 2);
            int[] words = {0, 1, count - 1, count, count + 1, 2 * count - 1, -1, -count, Integer.MIN_VALUE,
                Integer.MAX_VALUE, Integer.MIN_VALUE + 1};
            for (int word : words) {
                int due = (int) ((word & 0xFFFFFFFFL) % count);
                PinEngines x = withWord("", word, "load x 0;mov pc x;" + rest);
                x.run(2);
                Checks.due("mov pc of " + word + " with " + count, x.pc(0), due);
                PinEngines y = withWord("", word, "load osr 0;out pc 32;" + rest);
                y.run(2);
                Checks.due("out pc of " + word + " with " + count, y.pc(0), due);
            }
        }
        PinEngines one = Checks.ran(3, "", "mov pc not null;");
        Checks.due("mov pc with one instruction", one.pc(0), 0);
    }

    @Sentence(of = "Ticks", says = "then, whether it holds or not, X decreases by 1), ydec, differ (X and Y are different), "
            + "pin (the level of its jump pin is 1), more (the spent count is less than the pull limit).")
    static void conditionsXdecAndYdec() {
        for (int word : WORDS) {
            PinEngines x = withWord("", word, "load x 0;jmp xdec b;push;b:push;");
            x.run(2);
            Checks.due("pc after xdec of " + word, x.pc(0), word == 0 ? 2 : 3);
            Checks.due("X after xdec of " + word, x.register(0, 0), word - 1);
            PinEngines y = withWord("", word, "load y 0;jmp ydec b;push;b:push;");
            y.run(2);
            Checks.due("pc after ydec of " + word, y.pc(0), word == 0 ? 2 : 3);
            Checks.due("Y after ydec of " + word, y.register(0, 1), word - 1);
        }
    }

    @Sentence(of = "Ticks", says = "jmp: jumps to the address if the condition holds (always without one). "
            + "Conditions: xzero (X is 0), yzero")
    static void conditionsXzeroYzeroAndDiffer() {
        for (int word : WORDS) {
            Checks.due("pc after xzero of " + word, pcAfterJump(word, "load x 0;set y 0;", "xzero"), word == 0 ? 4 : 3);
            Checks.due("pc after yzero of " + word, pcAfterJump(word, "load y 0;set x 0;", "yzero"), word == 0 ? 4 : 3);
            Checks.due("pc after differ of the same", pcAfterJump(word, "load x 0;load y 0;", "differ"), 3);
            Checks.due("pc after differ of " + word + " and 0", pcAfterJump(word, "load x 0;set y 0;", "differ"),
                    word == 0 ? 3 : 4);
            Checks.due("pc after differ of " + word + " and not it", pcAfterJump(word, "load x 0;mov y not x;", "differ"), 4);
            Checks.due("pc after a jump without condition", pcAfterJump(word, "load x 0;load y 0;", ""), 4);
        }
        Checks.due("a jump to itself", Checks.ran(2, "", "jmp a;push;").pc(0), 0);
    }

    /** Two instructions, a jump to 4, and where the engine is then. */
    private static int pcAfterJump(int word, String before, String condition) {
        PinEngines x = withWord("", word, before + "jmp " + condition + " b;push;b:push;");
        x.run(3);
        return x.pc(0);
    }

    @Sentence(of = "Ticks", says = "pin (the level of its jump pin is 1)")
    static void conditionPin() {
        for (int pin : new int[] {0, 15}) {
            for (int level = 0; level < 2; level++) {
                PinEngines x = Checks.loaded("level " + pin + " " + level + ";level " + (15 - pin) + " " + (1 - level)
                        + ";engine 0 start a inpins 3 jumppin " + pin + ";a:jmp pin b;push;b:push;");
                x.run(1);
                Checks.due("pc after a jump by pin " + pin + " at " + level, x.pc(0), level == 1 ? 2 : 1);
            }
        }
    }

    @Sentence(of = "Ticks", says = "more (the spent count is less than the pull limit).")
    static void conditionMore() {
        for (int limit : new int[] {1, 2, 31, 32}) {
            for (int bits : new int[] {limit - 1, limit, limit + 1}) {
                String out = bits == 0 ? "mov osr null;" : "out null " + Math.min(bits, 32) + ";";
                PinEngines x = Checks.ran(3, "autopull " + limit, "mov osr null;" + out + "jmp more b;push;b:push;");
                Checks.due("pc after more at " + bits + " of " + limit, x.pc(0), bits < limit ? 4 : 3);
            }
        }
        Checks.due("pc after more at first", Checks.ran(1, "", "jmp more b;push;b:push;").pc(0), 1);
    }

    @Sentence(of = "Ticks", says = "wait b pin i: stalls with the reason 1 until the level of the pin (input base + i) mod 16 is b.")
    static void waitsForPins() {
        int[][] waits = {{0, 0, 0}, {0, 15, 15}, {15, 0, 15}, {15, 1, 0}, {15, 15, 14}, {1, 15, 0}, {8, 8, 0}, {8, 7, 15}};
        for (int[] wait : waits) {
            for (int level = 0; level < 2; level++) {
                PinEngines x = Checks.engine("inpins " + wait[0], "wait " + level + " pin " + wait[1] + ";push;");
                for (int pin = 0; pin < 16; pin++) {
                    x.drive(pin, pin == wait[2] ? 1 - level : level);
                }
                Checks.due("the wait of " + wait[0] + " + " + wait[1], x.run(3), 0);
                Checks.due("its reason", x.stall(0), 1);
                x.drive(wait[2], level);
                Checks.due("the wait at its level", x.run(1), 1);
                Checks.due("its reason", x.stall(0), 0);
                x.restart(0);
                Checks.due("a wait that need not stall", x.run(1), 1);
                Checks.due("ticks at which it could not be completed", x.count(0, 1), 3);
            }
        }
    }

    @Sentence(of = "Ticks", says = "stalls with the reason 1 until flag i is b; when b is 1, the flag is cleared when it is done.")
    static void waitsForFlags() {
        for (int flag : new int[] {0, 7}) {
            PinEngines x = Checks.loaded("engine 0 start a;engine 1 start b;a:wait 1 flag " + flag + ";c:jmp c;"
                    + "b:push;raise " + flag + ";jmp c;");
            x.run(2);
            Checks.due("the flag", Checks.flags(x), 1 << flag);
            Checks.due("the wait stalls", x.stall(0), 1);
            x.run(1);
            Checks.due("the wait is done", x.pc(0), 1);
            Checks.due("the flag is cleared", Checks.flags(x), 0);
            PinEngines y = Checks.engine("", "wait 0 flag " + flag + ";raise " + flag + ";wait 0 flag " + flag + ";");
            Checks.due("wait 0 at 0 is done, and at 1 it stalls", y.run(5), 2);
            Checks.due("its reason", y.stall(0), 1);
            Checks.due("the flag stays", Checks.flags(y), 1 << flag);
        }
    }

    @Sentence(of = "Ticks", says = "in s n: the lowest n bits of the source s are shifted into I: "
            + "from the left (I = I >> n with the bits on top), or with the setting inleft from the right "
            + "(I = I << n with the bits at the bottom); with n = 32 I is the source.")
    static void shiftsInOfAllSizes() {
        for (int bits : new int[] {1, 2, 31, 32}) {
            for (int word : WORDS) {
                for (int start : new int[] {0, -1, Integer.MIN_VALUE, 1}) {
                    long low = word & (1L << bits) - 1;
                    long old = start & 0xFFFFFFFFL;
                    shiftIn("", start, word, bits, (int) (old >> bits | low << 32 - bits));
                    shiftIn("inleft", start, word, bits, (int) (old << bits | low));
                }
            }
        }
    }

    private static void shiftIn(String setting, int start, int word, int bits, int due) {
        PinEngines x = withWord(setting, start, "load x 0;mov isr x;load y 1;in y " + bits + ";");
        x.poke(1, word);
        x.run(4);
        Checks.due("I after in of " + bits + " bits of " + word + " into " + start + " " + setting, x.register(0, 2), due);
        Checks.due("the source stays", x.register(0, 1), word);
    }

    @Sentence(of = "Description", says = "All right shifts are logical.")
    static void rightShiftsAreLogical() {
        PinEngines in = Checks.ran(2, "", "mov isr not null;in null 1;");
        Checks.due("in", in.register(0, 2), Integer.MAX_VALUE);
        PinEngines out = Checks.ran(2, "", "mov osr not null;out null 31;");
        Checks.due("out", out.register(0, 3), 1);
        PinEngines left = Checks.ran(2, "outleft", "mov osr not null;out x 1;");
        Checks.due("out to the left", left.register(0, 0), 1);
    }

    @Sentence(of = "Ticks", says = "with n = 32 I is the source. The fill count grows by n, up to 32.")
    static void fillCountGrowsUpTo32() {
        int[][] fills = {{31, 1, 32}, {31, 2, 32}, {1, 31, 32}, {30, 1, 31}, {32, 1, 32}, {32, 32, 32}, {1, 32, 32}};
        for (int[] fill : fills) {
            PinEngines x = Checks.ran(2, "", "in null " + fill[0] + ";in x " + fill[1] + ";");
            Checks.due("fill after " + fill[0] + " and " + fill[1], x.fill(0), fill[2]);
        }
    }

    @Sentence(of = "Ticks", says = "With autopush: if the fill count is at least the push limit then, "
            + "I is appended to the output queue, and I and the fill count become 0;")
    static void autopushAtItsLimit() {
        for (int limit : new int[] {1, 2, 8, 31, 32}) {
            for (int bits : new int[] {limit - 1, limit, limit + 1, 32}) {
                if (bits >= 1 && bits <= 32) {
                    boolean pushes = bits >= limit;
                    PinEngines x = Checks.ran(2, "inleft autopush " + limit, "set x 1;in x " + bits + ";");
                    Checks.due("the queue at " + bits + " of " + limit, Checks.words(x, 0, true), pushes ? "[1]" : "[]");
                    Checks.due("fill", x.fill(0), pushes ? 0 : bits);
                    Checks.due("I", x.register(0, 2), pushes ? 0 : 1);
                    Checks.due("words appended", x.count(0, 3), pushes ? 1 : 0);
                }
            }
        }
        PinEngines above = Checks.ran(2, "inleft autopush 32", "in null 31;in null 32;");
        Checks.due("fill above 32", above.fill(0), 0);
        Checks.due("words appended", above.count(0, 3), 1);
    }

    @Sentence(of = "Ticks", says = "if the output queue is full, the engine stalls with the reason 3 instead, "
            + "and nothing is shifted.")
    static void autopushIntoAFullQueue() {
        int[] rooms = {4, 8, 0};
        String[] settings = {"", "joinout ", "joinin "};
        for (int i = 0; i < rooms.length; i++) {
            PinEngines x = Checks.engine(settings[i] + "autopush 8", "set x 5;in x 7;in x 1;jmp a;");
            for (int word = 0; word < rooms[i]; word++) {
                Checks.due("instructions done with " + word + " words", x.run(4), 4);
                Checks.due("queueSize", x.queueSize(0, true), word + 1);
            }
            Checks.due("below the limit a full queue does not matter", x.run(2), 2);
            int before = x.register(0, 2);
            Checks.due("at the limit it does", x.run(5), 0);
            Checks.due("stall", x.stall(0), 3);
            Checks.due("I", x.register(0, 2), before);
            Checks.due("fill", x.fill(0), 7);
            Checks.due("queueSize", x.queueSize(0, true), rooms[i]);
            Checks.due("words appended", x.count(0, 3), rooms[i]);
            if (rooms[i] > 0) {
                x.take(0);
                Checks.due("with room again it is done", x.run(1), 1);
                Checks.due("stall", x.stall(0), 0);
                Checks.due("queueSize", x.queueSize(0, true), rooms[i]);
            }
        }
    }

    @Sentence(of = "Ticks", says = "out t n: with autopull, if the spent count is at least the pull limit, O is refilled first: "
            + "the first word leaves the input queue and becomes O, and the spent count becomes 0;")
    static void autopullAtItsLimit() {
        for (int limit : new int[] {1, 2, 8, 31, 32}) {
            for (int spent : new int[] {limit - 1, limit, limit + 1}) {
                if (spent >= 0 && spent <= 32) {
                    String first = spent == 0 ? "push;" : "out null " + spent + ";";
                    PinEngines x = Checks.engine("autopull " + limit, "mov osr not null;" + first + "out x 1;");
                    x.put(0, 6);
                    x.put(0, 7);
                    x.run(3);
                    boolean pulls = spent >= limit;
                    Checks.due("X at " + spent + " of " + limit, x.register(0, 0), pulls ? 0 : 1);
                    Checks.due("the queue", Checks.words(x, 0, false), pulls ? "[7]" : "[6 7]");
                    Checks.due("spent", x.spent(0), pulls ? 1 : spent + 1);
                    Checks.due("words that left", x.count(0, 4), pulls ? 1 : 0);
                }
            }
        }
    }

    @Sentence(of = "Ticks", says = "if the input queue is empty, the engine stalls with the reason 2 instead.")
    static void autopullFromAnEmptyQueue() {
        PinEngines x = Checks.engine("autopull 8", "out x 4;out y 4;");
        Checks.due("out at first", x.run(2), 0);
        Checks.due("stall", x.stall(0), 2);
        Checks.due("spent", x.spent(0), 32);
        x.put(0, 0x1AB);
        Checks.due("out with the last word", x.run(2), 2);
        Checks.due("X", x.register(0, 0), 0xB);
        Checks.due("Y", x.register(0, 1), 0xA);
        Checks.due("out at the limit", x.run(2), 0);
        Checks.due("stall", x.stall(0), 2);
        Checks.due("O", x.register(0, 3), 1);
        Checks.due("spent", x.spent(0), 8);
        Checks.due("X", x.register(0, 0), 0xB);
        Checks.due("words that left", x.count(0, 4), 1);
        PinEngines below = Checks.ran(3, "autopull 8", "mov osr not null;out x 7;out y 1;");
        Checks.due("below the limit an empty queue does not matter", below.spent(0), 8);
        PinEngines joined = Checks.ran(3, "autopull 1 joinout", "out x 4;");
        Checks.due("a queue for 0 words", joined.stall(0), 2);
        PinEngines without = Checks.ran(1, "", "out x 4;push;");
        Checks.due("without autopull", without.pc(0), 1);
    }

    @Sentence(of = "Ticks", says = "Then the lowest n bits of O are shifted out to the right, or with the setting outleft "
            + "the highest n bits to the left (with n = 32 all of O); zeros are shifted in.")
    static void shiftsOutOfAllSizes() {
        for (int bits : new int[] {1, 2, 31, 32}) {
            for (int word : WORDS) {
                long old = word & 0xFFFFFFFFL;
                shiftOut("", word, bits, (int) (old & (1L << bits) - 1), (int) (old >> bits));
                shiftOut("outleft", word, bits, (int) (old >> 32 - bits), (int) (old << bits));
            }
        }
    }

    private static void shiftOut(String setting, int word, int bits, int value, int rest) {
        PinEngines x = withWord(setting, word, "load osr 0;out x " + bits + ";");
        x.run(2);
        Checks.due("X after out of " + bits + " bits of " + word + " " + setting, x.register(0, 0), value);
        Checks.due("O after it", x.register(0, 3), rest);
    }

    @Sentence(of = "Ticks", says = "The spent count grows by n, up to 32.")
    static void spentCountGrowsUpTo32() {
        int[][] spents = {{31, 1, 32}, {31, 2, 32}, {1, 31, 32}, {30, 1, 31}, {32, 1, 32}, {32, 32, 32}, {1, 32, 32}};
        for (int[] spent : spents) {
            PinEngines x = Checks.ran(3, "", "mov osr x;out null " + spent[0] + ";out null " + spent[1] + ";");
            Checks.due("spent after " + spent[0] + " and " + spent[1], x.spent(0), spent[2]);
        }
        Checks.due("spent after an out at first", Checks.ran(1, "", "out null 1;").spent(0), 32);
    }

    @Sentence(of = "Ticks", says = "The target gets these n bits as a value: pins (written to the group for out), "
            + "dirs (the directions of that group, 1 is output), X, Y, null (nothing), pc, or isr (I; the fill count becomes n).")
    static void outTargetsAtTheEnds() {
        for (int bits : new int[] {1, 31, 32}) {
            int value = (int) ((1L << bits) - 1);
            String outs = "in null 5;mov osr not null;out ";
            PinEngines isr = Checks.ran(3, "", outs + "isr " + bits + ";");
            Checks.due("I", isr.register(0, 2), value);
            Checks.due("fill", isr.fill(0), bits);
            PinEngines nothing = Checks.ran(3, "", outs + "null " + bits + ";");
            Checks.due("X, Y, I after out null", nothing.register(0, 0) | nothing.register(0, 1) | nothing.register(0, 2), 0);
            Checks.due("fill after out null", nothing.fill(0), 5);
            Checks.due("Y", Checks.ran(3, "", outs + "y " + bits + ";").register(0, 1), value);
            PinEngines pins = Checks.ran(4, "outpins 0 16", "mov pins not null;" + outs + "pins " + bits + ";");
            Checks.due("the output bits", Checks.latches(pins), value & 0xFFFF);
            PinEngines dirs = Checks.ran(3, "outpins 0 16", outs + "dirs " + bits + ";");
            Checks.due("the directions", Checks.outputs(dirs), value & 0xFFFF);
            PinEngines back = Checks.ran(5, "outpins 0 16", "mov osr not null;out dirs 32;" + outs + "dirs 1;");
            Checks.due("the other directions become inputs", Checks.outputs(back), 1);
        }
    }

    @Sentence(of = "Input text", says = "| 'push' ['iffull'] ['noblock'] | 'pull' ['ifempty'] ['noblock']")
    static void pushAndPullOfAllKinds() {
        String[] kinds = {"", " iffull", " noblock", " iffull noblock"};
        int[] stalls = {3, 3, 0, 0};
        int[] lost = {0, 0, 1, 1};
        for (int i = 0; i < kinds.length; i++) {
            PinEngines push = Checks.ran(2, "joinin", "in null 32;push" + kinds[i] + ";");
            Checks.due("stall at push" + kinds[i], push.stall(0), stalls[i]);
            Checks.due("words lost by push" + kinds[i], push.count(0, 5), lost[i]);
            PinEngines pull = Checks.ran(1, "", "pull" + kinds[i].replace("iffull", "ifempty") + ";");
            Checks.due("stall at pull" + kinds[i], pull.stall(0), stalls[i] == 0 ? 0 : 2);
        }
    }

    @Sentence(of = "Ticks", says = "With iffull, nothing is done if the fill count is less than the push limit.")
    static void pushIffullAtTheLimit() {
        for (int limit : new int[] {1, 2, 8, 31, 32}) {
            for (int bits : new int[] {limit - 1, limit, limit + 1}) {
                if (bits <= 32) {
                    boolean done = bits >= limit;
                    // out isr fills I without the automatic push.
                    String fill = bits == 0 ? "mov isr not null;" : "mov osr not null;out isr " + bits + ";";
                    PinEngines x = Checks.ran(bits == 0 ? 2 : 3, "autopush " + limit, fill + "push iffull;pull;");
                    Checks.due("words appended at " + bits + " of " + limit, x.count(0, 3), done ? 1 : 0);
                    Checks.due("fill", x.fill(0), done ? 0 : bits);
                    Checks.due("I is 0", x.register(0, 2) == 0, done);
                    Checks.due("the instruction is done", x.stall(0), 0);
                }
            }
        }
        PinEngines full = Checks.ran(2, "joinin", "in null 31;push iffull;push iffull noblock;pull;");
        Checks.due("below the limit a full queue does not matter", full.stall(0), 0);
        full.run(1);
        Checks.due("and nothing is lost", full.count(0, 5), 0);
        Checks.due("fill", full.fill(0), 31);
    }

    @Sentence(of = "Ticks", says = "push: appends I to the output queue, and I and the fill count become 0.")
    static void pushWithRoom() {
        PinEngines x = Checks.engine("", "mov isr not null;in null 1;push;jmp a;");
        for (int word = 1; word <= 4; word++) {
            Checks.due("instructions done", x.run(4), 4);
            Checks.due("queueSize", x.queueSize(0, true), word);
            Checks.due("I and fill", x.register(0, 2) + x.fill(0), 0);
        }
        Checks.due("the words", Checks.words(x, 0, true), "[2147483647 2147483647 2147483647 2147483647]");
    }

    @Sentence(of = "Ticks", says = "If the queue is full, the engine stalls with the reason 3; with noblock it does not: "
            + "I and the fill count become 0, and the word is lost.")
    static void pushIntoAFullQueue() {
        PinEngines x = Checks.engine("", "push;push;push;push;set x 9;in x 32;push;push noblock;");
        x.run(6);
        Checks.due("push into the full queue", x.run(3), 0);
        Checks.due("stall", x.stall(0), 3);
        Checks.due("I", x.register(0, 2), 9);
        Checks.due("fill", x.fill(0), 32);
        Checks.due("words lost", x.count(0, 5), 0);
        x.take(0);
        Checks.due("push with room", x.run(1), 1);
        Checks.due("the words", Checks.words(x, 0, true), "[0 0 0 9]");
        PinEngines lost = Checks.engine("", "push;push;push;push;b:set x 9;in x 32;push noblock;jmp b;");
        lost.run(7);
        Checks.due("words lost", lost.count(0, 5), 1);
        Checks.due("I and fill", lost.register(0, 2) + lost.fill(0), 0);
        Checks.due("words appended", lost.count(0, 3), 4);
        Checks.due("queueSize", lost.queueSize(0, true), 4);
        Checks.due("stall", lost.stall(0), 0);
        lost.take(0);
        lost.run(4);
        Checks.due("words lost with room", lost.count(0, 5), 1);
        Checks.due("words appended with room", lost.count(0, 3), 5);
    }

    @Sentence(of = "Ticks", says = "With ifempty, nothing is done if the spent count is less than the pull limit.")
    static void pullIfemptyAtTheLimit() {
        for (int limit : new int[] {1, 2, 8, 31, 32}) {
            for (int spent : new int[] {limit - 1, limit, limit + 1}) {
                if (spent <= 32) {
                    boolean done = spent >= limit;
                    String first = spent == 0 ? "push;" : "out null " + spent + ";";
                    PinEngines x = Checks.engine("autopull " + limit, "mov osr not null;" + first + "pull ifempty;push;");
                    x.put(0, 6);
                    Checks.due("the pull is done", x.run(3), 3);
                    Checks.due("words that left at " + spent + " of " + limit, x.count(0, 4), done ? 1 : 0);
                    Checks.due("spent", x.spent(0), done ? 0 : spent);
                    Checks.due("O is the word", x.register(0, 3) == 6, done);
                }
            }
        }
        PinEngines empty = Checks.ran(3, "", "mov osr not null;out null 31;pull ifempty;pull ifempty noblock;push;");
        Checks.due("below the limit an empty queue does not matter", empty.stall(0), 0);
        empty.run(1);
        Checks.due("and O stays", empty.register(0, 3), 1);
        Checks.due("spent", empty.spent(0), 31);
    }

    @Sentence(of = "Ticks", says = "If the queue is empty, the engine stalls with the reason 2; "
            + "with noblock O becomes X instead (and the spent count 0).")
    static void pullFromAnEmptyQueue() {
        PinEngines x = Checks.engine("", "set x 9;pull;pull noblock;pull;");
        x.put(0, 5);
        x.run(2);
        Checks.due("O of the last word", x.register(0, 3), 5);
        Checks.due("spent", x.spent(0), 0);
        x.run(1);
        Checks.due("O of pull noblock", x.register(0, 3), 9);
        Checks.due("spent", x.spent(0), 0);
        Checks.due("words that left", x.count(0, 4), 1);
        Checks.due("pull", x.run(3), 0);
        Checks.due("stall", x.stall(0), 2);
        Checks.due("O stays", x.register(0, 3), 9);
        x.put(0, 7);
        Checks.due("pull with a word", x.run(1), 1);
        Checks.due("O", x.register(0, 3), 7);
        PinEngines first = Checks.ran(1, "", "pull noblock;");
        Checks.due("spent after pull noblock at first", first.spent(0), 0);
        PinEngines word = Checks.engine("", "set x 9;pull noblock;");
        word.put(0, 4);
        word.run(2);
        Checks.due("O of pull noblock with a word", word.register(0, 3), 4);
    }

    @Sentence(of = "Ticks", says = "mov d s: the destination gets the source, with not all bits inverted, "
            + "with reverse the bits in reverse order.")
    static void movesOfExtremeWords() {
        for (int word : WORDS) {
            PinEngines x = withWord("", word, "load x 0;mov y x;mov isr not x;mov osr reverse x;");
            x.run(4);
            Checks.due("mov of " + word, x.register(0, 1), word);
            Checks.due("mov not of " + word, x.register(0, 2), -1 - word);
            int reversed = 0;
            for (int bit = 0; bit < 32; bit++) {
                reversed |= (word >> bit & 1) << 31 - bit;
            }
            Checks.due("mov reverse of " + word, x.register(0, 3), reversed);
        }
    }

    @Sentence(of = "Ticks", says = "isr (I; the fill count becomes 0), osr (O; the spent count becomes 0).")
    static void movesClearTheCounts() {
        PinEngines x = Checks.ran(1, "", "in null 32;mov isr not null;mov osr not null;");
        Checks.due("fill", x.fill(0), 32);
        x.run(1);
        Checks.due("fill after mov isr", x.fill(0), 0);
        Checks.due("spent", x.spent(0), 32);
        x.run(1);
        Checks.due("spent after mov osr", x.spent(0), 0);
        PinEngines limits = Checks.ran(3, "autopush 1 autopull 1", "mov isr not null;mov osr not null;push;");
        Checks.due("mov isr appends nothing by itself", limits.count(0, 3), 1);
    }

    @Sentence(of = "Ticks", says = "raise i and clear i: flag i is raised or cleared.")
    static void firstAndLastFlag() {
        PinEngines x = Checks.engine("", "raise 0;raise 7;raise 7;clear 0;clear 0;clear 7;");
        int[] flags = {0, 0x01, 0x81, 0x81, 0x80, 0x80, 0};
        for (int cycle = 0; cycle < flags.length; cycle++) {
            Checks.due("the flags after " + cycle + " cycles", Checks.flags(x), flags[cycle]);
            x.run(1);
        }
    }

    @Sentence(of = "Ticks", says = "signal i: raises flag i and stalls with the reason 5; "
            + "it is done at a later try at which flag i is 0.")
    static void signals() {
        for (int flag : new int[] {0, 7}) {
            for (String before : new String[] {"push;", "raise " + flag + ";"}) {
                PinEngines x = Checks.loaded("engine 0 start a;engine 1 start b;a:" + before + "signal " + flag
                        + ";c:jmp c;b:push;push;push;clear " + flag + ";jmp c;");
                x.run(2);
                Checks.due("the first try stalls, whatever the flag was", x.stall(0), 5);
                Checks.due("the flag", Checks.flags(x), 1 << flag);
                x.run(1);
                Checks.due("a try with the flag", x.stall(0), 5);
                x.run(1);
                Checks.due("the try in which the flag is cleared", x.stall(0), 5);
                Checks.due("the flag is not raised again", Checks.flags(x), 0);
                x.run(1);
                Checks.due("the try without the flag", x.stall(0), 0);
                Checks.due("pc", x.pc(0), 2);
                Checks.due("the flag", Checks.flags(x), 0);
                Checks.due("ticks at which it could not be completed", x.count(0, 1), 3);
            }
        }
    }

    @Sentence(of = "Ticks", says = "set d v: the destination gets v: pins (written to the group for set), "
            + "dirs (the directions of that group), X, Y.")
    static void setsOfTheEnds() {
        for (int value : new int[] {0, 1, 16, 31}) {
            PinEngines x = Checks.ran(6, "setpins 11 5", "mov x not null;mov y not null;set x " + value + ";set y " + value
                    + ";set pins " + value + ";set dirs " + value + ";");
            Checks.due("X", x.register(0, 0), value);
            Checks.due("Y", x.register(0, 1), value);
            Checks.due("the output bits", Checks.latches(x), value << 11);
            Checks.due("the directions", Checks.outputs(x), value << 11);
            x = Checks.ran(4, "setpins 11 5", "set pins 31;set dirs 31;set pins " + value + ";set dirs " + value + ";");
            Checks.due("the output bits", Checks.latches(x), value << 11);
            Checks.due("the directions", Checks.outputs(x), value << 11);
        }
    }

    @Sentence(of = "Ticks", says = "The place a is a number, or the lowest 4 bits of X or Y.")
    static void places() {
        for (int place : new int[] {0, 1, 14, 15}) {
            PinEngines x = Checks.engine("", "load y " + place + ";store y " + (15 - place) + ";");
            x.poke(place, 77);
            x.run(2);
            Checks.due("load from " + place, x.register(0, 1), 77);
            Checks.due("store to " + (15 - place), x.memory(15 - place), 77);
        }
        for (int word : new int[] {0, 15, 16, 17, 31, -1, -16, Integer.MIN_VALUE, Integer.MAX_VALUE, 0x12345678}) {
            for (String register : new String[] {"x", "y"}) {
                String other = register.equals("x") ? "y" : "x";
                PinEngines x = withWord("", word, "load " + register + " 0;load osr " + register + ";set " + other
                        + " 31;store " + other + " " + register + ";");
                x.poke(word & 15, word);
                for (int place = 1; place < 16; place++) {
                    if (place != (word & 15)) {
                        x.poke(place, 100 + place);
                    }
                }
                x.run(4);
                Checks.due("load from the place " + word, x.register(0, 3), word);
                Checks.due("store to the place " + word, x.memory(word & 15), 31);
            }
        }
    }

    @Sentence(of = "Ticks", says = "load r a: the register gets the word of the memory at a (osr: the spent count becomes 0).")
    static void loadsOfTheLastPlace() {
        PinEngines x = Checks.engine("", "load x 15;load y x;load osr 15;");
        x.poke(15, -1);
        Checks.due("spent at first", x.spent(0), 32);
        Checks.due("run", x.run(2), 2);
        Checks.due("X", x.register(0, 0), -1);
        Checks.due("Y", x.register(0, 1), -1);
        Checks.due("spent after load x and load y", x.spent(0), 32);
        x.run(1);
        Checks.due("O", x.register(0, 3), -1);
        Checks.due("spent after load osr", x.spent(0), 0);
        PinEngines same = Checks.engine("", "set x 3;load x x;store x x;");
        same.poke(3, 5);
        same.run(3);
        Checks.due("load of the place that it changes", same.memory(5), 5);
    }

    @Sentence(of = "Ticks", says = "Without the port, the engine stalls with the reason 4.")
    static void withoutThePort() {
        PinEngines x = Checks.loaded("engine 0 start a;engine 3 start b;a:store x 0;c:jmp c;b:load osr 15;jmp c;");
        x.poke(15, 8);
        Checks.due("run", x.run(1), 1);
        Checks.due("stall of engine 3", x.stall(3), 4);
        Checks.due("O", x.register(3, 3), 0);
        Checks.due("spent", x.spent(3), 32);
        Checks.due("ticks at which it could not be completed", x.count(3, 1), 1);
        x.run(1);
        Checks.due("stall of engine 3", x.stall(3), 0);
        Checks.due("O", x.register(3, 3), 8);
        Checks.due("spent", x.spent(3), 0);
    }

    @Sentence(of = "Ticks", says = "status (-1 if its input queue is empty, otherwise 0).")
    static void statusOfEmptyAndOtherQueues() {
        PinEngines x = Checks.engine("", "mov x status;mov y not status;");
        for (int size = 0; size <= 4; size++) {
            x.run(2);
            Checks.due("status of " + size + " words", x.register(0, 0), size == 0 ? -1 : 0);
            Checks.due("not status of " + size + " words", x.register(0, 1), size == 0 ? 0 : -1);
            x.put(0, 0);
        }
        PinEngines output = Checks.ran(3, "", "push;push;mov x status;");
        Checks.due("status does not look at the output queue", output.register(0, 0), -1);
    }

    @Sentence(of = "Ticks", says = "Sources: pins (its pin value), x, y, null (0), isr (I), osr (O)")
    static void sourcesOfMovAndIn() {
        String before = "set x 3;set y 5;mov isr x;in y 1;mov osr not y;";
        String[] sources = {"pins", "x", "y", "null", "isr", "osr"};
        int isr = 1 | Integer.MIN_VALUE;
        int[] words = {0x8001, 3, 5, 0, isr, ~5};
        for (int i = 0; i < sources.length; i++) {
            PinEngines mov = Checks.loaded("level 0 1;level 15 1;engine 0 start a;a:" + before + "mov x " + sources[i] + ";");
            mov.run(6);
            Checks.due("mov x " + sources[i], mov.register(0, 0), words[i]);
            PinEngines in = Checks.loaded("level 0 1;level 15 1;engine 0 start a;a:" + before + "in " + sources[i] + " 32;");
            in.run(6);
            Checks.due("in " + sources[i] + " 32", in.register(0, 2), words[i]);
        }
    }
}
