/** The sentences of the description that name no boundary case. */
final class SentencesOfDescription {
    private SentencesOfDescription() {
    }

    @Sentence(of = "Description", says = "Bits are numbered from 0, the least significant one.")
    static void bitsFromTheLeastSignificantOne() {
        PinEngines x = Checks.engine("outpins 0 16", "mov osr not null;out dirs 16;pull;out pins 16;mov isr pins;");
        x.put(0, 0x8005);
        x.run(4);
        Checks.due("latch(0)", x.latch(0), 1);
        Checks.due("latch(1)", x.latch(1), 0);
        Checks.due("latch(2)", x.latch(2), 1);
        Checks.due("latch(14)", x.latch(14), 0);
        Checks.due("latch(15)", x.latch(15), 1);
        x.run(1);
        Checks.due("the pins read", x.register(0, 2), 0x8005);
    }

    @Sentence(of = "Description", says = "The level of a pin is its output bit if its direction is output, "
            + "its outside level otherwise.")
    static void levelByDirection() {
        PinEngines x = Checks.engine("setpins 0 4", "set pins 5;set dirs 3;");
        x.drive(1, 1);
        x.drive(3, 1);
        x.run(1);
        Checks.due("the levels of inputs", Checks.levels(x), 0b1010);
        x.run(1);
        Checks.due("the levels of two outputs and two inputs", Checks.levels(x), 0b1001);
        x.drive(0, 0);
        x.drive(1, 0);
        x.drive(2, 1);
        x.drive(3, 0);
        Checks.due("the levels with others outside", Checks.levels(x), 0b0101);
    }

    @Sentence(of = "Program and engines", says = "an engine exists if the text defines it.")
    static void enginesOfTheText() {
        PinEngines x = Checks.loaded("a:push;engine 2 start a;");
        Checks.due("engines", x.engines(), 4);
        Checks.due("pc(2)", x.pc(2), 0);
        Checks.noSuchElement("pc(0)", () -> x.pc(0));
        Checks.noSuchElement("pc(3)", () -> x.pc(3));
        Checks.due("run of one engine", x.run(1), 1);
        Checks.load(x, "a:push;");
        Checks.due("engines of a text without one", x.engines(), 0);
        Checks.noSuchElement("pc(2) of it", () -> x.pc(2));
        Checks.due("run without an engine", x.run(9), 0);
    }

    @Sentence(of = "Program and engines", says = "The push limit of an engine is its setting autopush, "
            + "the pull limit its setting autopull;")
    static void limitsByTheirSettings() {
        PinEngines x = Checks.ran(3, "autopush 5 autopull 7", "mov osr null;out isr 4;push iffull;out isr 5;push iffull;");
        Checks.due("words pushed below the push limit", x.count(0, 3), 0);
        x.run(2);
        Checks.due("words pushed at the push limit", x.count(0, 3), 1);
        PinEngines y = Checks.ran(3, "autopush 5 autopull 7", "mov osr null;out null 6;pull ifempty;out null 1;pull ifempty;");
        Checks.due("stall below the pull limit", y.stall(0), 0);
        y.run(2);
        Checks.due("stall at the pull limit", y.stall(0), 2);
    }

    @Sentence(of = "One cycle", says = "4. The enabled engines that have a tick are taken in ascending order (see ticks).")
    static void enabledEnginesWithATick() {
        PinEngines x = Checks.loaded("engine 2 start c setpins 0 5 wrap c c;engine 0 start a setpins 0 5 wrap a a;"
                + "engine 1 start b setpins 0 5 wrap b b clock 2 0;a:set pins 1;b:set pins 2;c:set pins 4;");
        Checks.due("run of three engines", x.run(1), 3);
        Checks.due("the bits of engine 2", Checks.latches(x), 4);
        x.enable(2, false);
        Checks.due("run of engine 0", x.run(1), 1);
        Checks.due("the bits of engine 0", Checks.latches(x), 1);
        Checks.due("run of the engines 0 and 1", x.run(1), 2);
        Checks.due("the bits of engine 1", Checks.latches(x), 2);
        x.enable(0, false);
        Checks.due("run without a tick", x.run(1), 0);
        Checks.due("the bits stay", Checks.latches(x), 2);
    }

    @Sentence(of = "One cycle", says = "5. Engine by engine in ascending order, the output bits and directions that it writes "
            + "are changed; within an engine first those that its instruction writes, then its side outputs.")
    static void orderOfWriting() {
        PinEngines x = Checks.ran(1, "setpins 0 2 sidepins 0 1", "set pins 3 side 0;set pins 0 side 1;");
        Checks.due("side 0 after the instruction", Checks.latches(x), 0b10);
        x.run(1);
        Checks.due("side 1 after the instruction", Checks.latches(x), 0b01);
        PinEngines y = Checks.loaded("engine 1 start b setpins 0 1;engine 0 start a setpins 0 2 sidepins 0 1;"
                + "a:set pins 3 side 0;set dirs 3;b:set pins 1;set dirs 0;");
        y.run(1);
        Checks.due("engine 1 after the side outputs of engine 0", Checks.latches(y), 0b11);
        y.run(1);
        Checks.due("the directions of engine 1 after those of engine 0", Checks.outputs(y), 0b10);
    }

    @Sentence(of = "Ticks", says = "Otherwise the instruction is done, the engine is not stalled any more, "
            + "its delay ticks are those of the instruction, and its pc becomes the next address, unless the instruction sets it.")
    static void doneInstruction() {
        PinEngines x = Checks.ran(2, "", "pull delay 3;jmp a delay 1;");
        Checks.due("stall", x.stall(0), 2);
        Checks.due("delayLeft while it is stalled", x.delayLeft(0), 0);
        Checks.due("pc while it is stalled", x.pc(0), 0);
        x.put(0, 1);
        Checks.due("run", x.run(1), 1);
        Checks.due("stall when it is done", x.stall(0), 0);
        Checks.due("delayLeft when it is done", x.delayLeft(0), 3);
        Checks.due("pc when it is done", x.pc(0), 1);
        Checks.due("run with delays", x.run(3), 0);
        Checks.due("run of the jump", x.run(1), 1);
        Checks.due("pc by the jump", x.pc(0), 0);
        Checks.due("delayLeft of the jump", x.delayLeft(0), 1);
    }

    @Sentence(of = "Ticks", says = "Conditions: xzero (X is 0), yzero, xdec (X is not 0;")
    static void conditions() {
        String[] conditions = {"xzero", "yzero", "xdec", "ydec", "differ"};
        int[][] words = {{0, 0}, {0, 1}, {1, 0}, {1, 1}, {1, 2}};
        String[] jumps = {"yy   ", "y  yy", " yy y", "  yy ", "  yyy"};
        for (int w = 0; w < words.length; w++) {
            for (int c = 0; c < conditions.length; c++) {
                PinEngines x = Checks.ran(3, "", "set x " + words[w][0] + ";set y " + words[w][1] + ";jmp " + conditions[c]
                        + " c;push noblock;c:push noblock;");
                Checks.due(conditions[c] + " with " + words[w][0] + " and " + words[w][1], x.pc(0),
                        jumps[w].charAt(c) == 'y' ? 4 : 3);
                Checks.due("X after " + conditions[c], x.register(0, 0), words[w][0] - (c == 2 ? 1 : 0));
                Checks.due("Y after " + conditions[c], x.register(0, 1), words[w][1] - (c == 3 ? 1 : 0));
            }
        }
        for (int level = 0; level < 2; level++) {
            PinEngines x = Checks.engine("jumppin 5", "jmp pin c;push noblock;c:push noblock;");
            x.drive(5, level);
            x.run(1);
            Checks.due("pin with the level " + level, x.pc(0), level == 1 ? 2 : 1);
        }
        for (int bits = 2; bits <= 3; bits++) {
            PinEngines x = Checks.ran(3, "autopull 3", "mov osr null;out null " + bits + ";jmp more c;push noblock;c:push noblock;");
            Checks.due("more with " + bits + " of 3 bits spent", x.pc(0), bits == 2 ? 4 : 3);
        }
    }

    @Sentence(of = "Ticks", says = "wait b flag i: stalls with the reason 1 until flag i is b;")
    static void waitingForAFlag() {
        PinEngines x = Checks.loaded("engine 0 start a;engine 1 start b;a:wait 1 flag 3;jmp a;"
                + "b:push noblock;push noblock;raise 3;c:jmp c;");
        for (int cycle = 0; cycle < 3; cycle++) {
            x.run(1);
            Checks.due("stall in cycle " + cycle, x.stall(0), 1);
        }
        Checks.due("the flag that is raised", x.flag(3), 1);
        x.run(1);
        Checks.due("stall at the flag", x.stall(0), 0);
        Checks.due("pc", x.pc(0), 1);
        Checks.due("the flag is cleared", x.flag(3), 0);
        PinEngines y = Checks.loaded("engine 0 start a;engine 1 start b;a:raise 3;wait 0 flag 3;c:jmp c;"
                + "b:push noblock;push noblock;clear 3;d:jmp d;");
        y.run(3);
        Checks.due("stall until the flag is 0", y.stall(0), 1);
        Checks.due("the flag that is cleared", y.flag(3), 0);
        y.run(1);
        Checks.due("stall with the flag at 0", y.stall(0), 0);
        Checks.due("pc", y.pc(0), 2);
    }

    @Sentence(of = "Ticks", says = "pull: the first word leaves the input queue and becomes O, and the spent count becomes 0.")
    static void pulling() {
        PinEngines x = Checks.engine("", "pull;out null 4;pull;");
        x.put(0, 7);
        x.put(0, 8);
        x.run(1);
        Checks.due("O", x.register(0, 3), 7);
        Checks.due("spent", x.spent(0), 0);
        Checks.due("the queue", Checks.words(x, 0, false), "[8]");
        x.run(1);
        Checks.due("spent by out", x.spent(0), 4);
        x.run(1);
        Checks.due("O", x.register(0, 3), 8);
        Checks.due("spent", x.spent(0), 0);
        Checks.due("the queue", Checks.words(x, 0, false), "[]");
    }

    @Sentence(of = "Ticks", says = "Destinations: pins (written to the group for out), X, Y, pc, isr (I;")
    static void destinationsOfMov() {
        PinEngines x = Checks.ran(2, "outpins 4 3 setpins 9 2", "set x 2;mov pins x;mov y x;mov isr x;mov osr x;mov pc x;");
        Checks.due("the output bits", Checks.latches(x), 2 << 4);
        x.run(1);
        Checks.due("Y", x.register(0, 1), 2);
        x.run(1);
        Checks.due("I", x.register(0, 2), 2);
        x.run(1);
        Checks.due("O", x.register(0, 3), 2);
        x.run(1);
        Checks.due("pc", x.pc(0), 2);
        Checks.due("X", Checks.ran(1, "", "mov x status;").register(0, 0), -1);
    }

    @Sentence(of = "Ticks", says = "store r a: the word of the memory at a becomes the register.")
    static void storing() {
        PinEngines x = Checks.ran(2, "", "set x 9;store x 3;set y 3;mov isr not null;store isr y;store y 15;store y x;");
        Checks.due("memory(3) by X", x.memory(3), 9);
        x.run(3);
        Checks.due("memory(3) by I", x.memory(3), -1);
        x.run(2);
        Checks.due("memory(15) by Y", x.memory(15), 3);
        Checks.due("memory(9) by Y", x.memory(9), 3);
    }

    @Sentence(of = "Input text", says = "The text comes from a byte buffer.")
    static void textOfTheBuffer() {
        PinEngines x = new PinEngines();
        String label = "abcdefghijklmnopqrstuvwxyz";
        Checks.due("load of a word of two feeds", Checks.load(x, "engine 0 start " + label + ";" + label + ":push;"), 1);
        Checks.due("load of what is not fed", Checks.load(x, ""), 0);
    }

    @Sentence(of = "Input text", says = "program: clause*")
    static void clauses() {
        PinEngines x = new PinEngines();
        Checks.due("no clause", Checks.load(x, ""), 0);
        Checks.due("one clause", Checks.load(x, "level 0 1;"), 0);
        Checks.due("clauses of all kinds", Checks.load(x, "push;level 0 1;pull;engine 0 start a;push;a:pull;level 1 1;"), 4);
        Checks.due("pc(0)", x.pc(0), 3);
        Checks.due("the levels", Checks.levels(x), 3);
        Checks.due("a clause and its half", Checks.load(x, "push;pull"), -11);
    }

    @Sentence(of = "Input text", says = "instruction: 'jmp' ['xzero' | 'yzero' | 'xdec' | 'ydec' | 'differ' | 'pin' | 'more'] NAME")
    static void wordsOfJmp() {
        for (String condition : new String[] {"", "xzero ", "yzero ", "xdec ", "ydec ", "differ ", "pin ", "more "}) {
            PinEngines x = Checks.loaded("push;a:jmp " + condition + "a;");
            Checks.due("format", Checks.format(x, 1), "jmp " + condition + "1");
        }
        Checks.due("two conditions", Checks.load(new PinEngines(), "a:jmp xzero yzero a;"), -11);
        Checks.due("no name", Checks.load(new PinEngines(), "a:jmp xzero;"), -11);
    }

    @Sentence(of = "Input text", says = "'mov' ('pins' | 'x' | 'y' | 'pc' | 'isr' | 'osr') ['not' | 'reverse'] "
            + "('pins' | 'x' | 'y' | 'null' | 'status' | 'isr' | 'osr')")
    static void wordsOfMov() {
        StringBuilder text = new StringBuilder();
        for (String target : new String[] {"pins", "x", "y", "pc", "isr", "osr"}) {
            for (String change : new String[] {"", "not ", "reverse "}) {
                text.setLength(0);
                for (String source : new String[] {"pins", "x", "y", "null", "status", "isr", "osr"}) {
                    text.append("mov ").append(target).append(' ').append(change).append(source).append(';');
                }
                PinEngines x = Checks.loaded(text.toString());
                for (int address = 0; address < 7; address++) {
                    Checks.due("format", Checks.format(x, address), text.toString().split(";")[address]);
                }
            }
        }
        Checks.due("mov to null", Checks.load(new PinEngines(), "mov null x;"), -11);
        Checks.due("mov to status", Checks.load(new PinEngines(), "mov status x;"), -11);
        Checks.due("mov of the pc", Checks.load(new PinEngines(), "mov x pc;"), -11);
        Checks.due("mov with both changes", Checks.load(new PinEngines(), "mov x not reverse y;"), -11);
    }

    @Sentence(of = "Input text", says = "'load' ('x' | 'y' | 'osr') place | 'store' ('x' | 'y' | 'isr') place")
    static void wordsOfLoadAndStore() {
        for (String words : new String[] {"load x", "load y", "load osr", "store x", "store y", "store isr"}) {
            PinEngines x = Checks.loaded(words + " 0;" + words + " 15;" + words + " x;" + words + " y;");
            Checks.due("format", Checks.format(x, 0), words + " 0");
            Checks.due("format", Checks.format(x, 1), words + " 15");
            Checks.due("format", Checks.format(x, 2), words + " x");
            Checks.due("format", Checks.format(x, 3), words + " y");
        }
        Checks.due("load isr", Checks.load(new PinEngines(), "load isr 0;"), -11);
        Checks.due("store osr", Checks.load(new PinEngines(), "store osr 0;"), -11);
        Checks.due("load x at the isr", Checks.load(new PinEngines(), "load x isr;"), -11);
        Checks.due("load x at 16", Checks.load(new PinEngines(), "load x 16;"), -12);
    }

    @Sentence(of = "Input text", says = "test: conjunction ('or' conjunction)*. conjunction: factor ('and' factor)*.")
    static void testsOfQueries() {
        PinEngines x = Checks.engine("", "push;");
        Checks.due("or", Checks.query(x, "many 1=0 or 1=0 or 1=1"), 1);
        Checks.due("or", Checks.query(x, "many 1=0 or 1=0 or 1=0"), 0);
        Checks.due("and", Checks.query(x, "many 1=1 and 1=1 and 1=1"), 1);
        Checks.due("and", Checks.query(x, "many 1=1 and 1=1 and 1=0"), 0);
        Checks.due("or, and", Checks.query(x, "many 1=1 or 1=1 and 1=0"), 1);
        Checks.due("and, or", Checks.query(x, "many 1=0 and 1=0 or 1=1"), 1);
        Checks.due("brackets", Checks.query(x, "many (1=1 or 1=1) and 1=0"), 0);
        Checks.due("or at the end", Checks.query(x, "many 1=1 or"), PinEngines.HIDDEN - 1);
        Checks.due("and at the beginning", Checks.query(x, "many and 1=1"), PinEngines.HIDDEN - 1);
        Checks.due("or behind and", Checks.query(x, "many 1=1 and or 1=1"), PinEngines.HIDDEN - 1);
    }
}
