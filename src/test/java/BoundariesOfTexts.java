/** Promises 1 to 4: a new object, the buffer, load and the error position. */
final class BoundariesOfTexts {
    private static final int SPACES = 0x20202020;
    private static final String BUSY = "level 2 1;engine 1 start a;a:set x 7;raise 3;store x 4;jmp a;";

    private BoundariesOfTexts() {
    }

    @Sentence(of = "Promise 1", says = "Creates a simulator without instructions and engines.")
    static void newObjectIsEmpty() {
        PinEngines x = new PinEngines();
        Checks.due("instructionCount", x.instructionCount(), 0);
        Checks.due("engines", x.engines(), 0);
        for (int engine = 0; engine < 4; engine++) {
            int absent = engine;
            Checks.noSuchElement("pc(" + engine + ")", () -> x.pc(absent));
        }
        Checks.noSuchElement("format(0)", () -> x.format(0));
        Checks.due("run(1)", x.run(1), 0);
    }

    @Sentence(of = "Promise 2", says = "Appends 20 bytes to the buffer")
    static void feedAppends20Bytes() {
        PinEngines x = new PinEngines();
        Checks.illegalArgument("load(1) of an empty buffer", () -> x.load(1));
        Checks.due("the first feed", x.feed(SPACES, SPACES, SPACES, SPACES, SPACES), 20);
        Checks.illegalArgument("load(21) of 20 bytes", () -> x.load(21));
        Checks.due("the second feed", x.feed(SPACES, SPACES, SPACES, SPACES, SPACES), 40);
        Checks.illegalArgument("load(41) of 40 bytes", () -> x.load(41));
        Checks.due("load(40)", x.load(40), 0);
    }

    @Sentence(of = "Promise 2", says = "the four bytes of each parameter, the most significant byte first.")
    static void feedTakesTheBytesInOrder() {
        PinEngines x = new PinEngines();
        for (int place = 0; place < 20; place++) {
            for (int sign : new int[] {0x00, 0x7F, 0x80, 0xFF}) {
                int[] words = {SPACES, SPACES, SPACES, SPACES, SPACES};
                int shift = 24 - place % 4 * 8;
                words[place / 4] = words[place / 4] & ~(0xFF << shift) | sign << shift;
                x.feed(words[0], words[1], words[2], words[3], words[4]);
                Checks.due("load with the byte " + sign + " at " + place, x.load(20), -11);
                Checks.due("errorPosition of the byte " + sign + " at " + place, x.errorPosition(), place);
            }
        }
    }

    @Sentence(of = "Promise 2", says = "NONE if it would exceed 1000, and then nothing is appended.")
    static void feedBeyond1000Bytes() {
        PinEngines x = new PinEngines();
        for (int fed = 20; fed <= 980; fed += 20) {
            Checks.due("feed up to " + fed, x.feed(SPACES, SPACES, SPACES, SPACES, SPACES), fed);
        }
        Checks.due("feed of ' push;  ' up to 1000", x.feed(SPACES, SPACES, SPACES, 0x20707573, 0x683B2020), 1000);
        Checks.due("feed beyond 1000", x.feed(0, 0, 0, 0, 0), PinEngines.NONE);
        Checks.due("feed beyond 1000 again", x.feed(-1, -1, -1, -1, -1), PinEngines.NONE);
        Checks.illegalArgument("load(1001) after it", () -> x.load(1001));
        Checks.due("load(1000) of the old bytes", x.load(1000), 1);
        Checks.due("feed into the emptied buffer", x.feed(0, 0, 0, 0, 0), 20);
    }

    @Sentence(of = "Promise 2", says = "NONE if it would exceed 1000, and then nothing is appended.")
    static void textsOf1000And1001Bytes() {
        PinEngines x = new PinEngines();
        String start = "engine 0 start a;";
        String end = "a:push;jmp a;";
        Checks.feed(x, start + " ".repeat(970) + end);
        Checks.due("load of 1000 bytes", x.load(1000), 2);
        Checks.feed(x, start + " ".repeat(971) + end);
        Checks.due("load of 1000 bytes, of which the last one was refused", x.load(1000), -11);
        Checks.due("its end", x.errorPosition(), 1000);
    }

    @Sentence(of = "Promise 3", says = "which replaces everything: the clock and all counts are 0, all pins, flags, "
            + "the memory and the port are as at first (but for the levels that the program gives), "
            + "and the undo history and the snapshot are discarded.")
    static void emptyProgramReplacesEverything() {
        PinEngines x = Checks.loaded(BUSY);
        x.drive(9, 1);
        x.poke(15, 5);
        x.schedule(40, 8, 1);
        x.run(9);
        x.saveSnapshot();
        Checks.due("load(0)", x.load(0), 0);
        Checks.due("the state is that of a new object", Checks.brief(x), Checks.brief(new PinEngines()));
        Checks.due("engines", x.engines(), 0);
        Checks.due("undo", x.undo(), PinEngines.NONE);
        Checks.due("restoreSnapshot", x.restoreSnapshot(), false);
        Checks.due("the scheduled levels are gone", x.schedule(0, 0, 0), 1);
    }

    @Sentence(of = "Promise 2", says = "Returns the number of bytes in the buffer; NONE if it would exceed 1000")
    static void textsOf1000Tokens() {
        PinEngines x = new PinEngines();
        Checks.due("load of 1000 signs", Checks.load(x, ";".repeat(1000)), -11);
        Checks.due("its position", x.errorPosition(), 0);
        Checks.due("load of 200 times five signs", Checks.load(x, "a:in\n".repeat(200)), -11);
        Checks.due("its position", x.errorPosition(), 5);
        Checks.due("load of 1000 digits and signs", Checks.load(x, "level 0 1;".repeat(50) + "1;".repeat(250)), -11);
        Checks.due("its position", x.errorPosition(), 500);
    }

    @Sentence(of = "Promise 3", says = "which replaces everything: the clock and all counts are 0, all pins, flags, "
            + "the memory and the port are as at first (but for the levels that the program gives), "
            + "and the undo history and the snapshot are discarded.")
    static void nothingOfAnEarlierProgramStays() {
        String plain = "level 3 1;level 4 1;engine 0 start a;engine 1 start a;engine 2 start a;a:jmp pin a;jmp b;push;"
                + "b:in pins 5;mov osr not isr;out x 3;wait 0 pin 0;in y 32;out null 32;out null 1;push;pull noblock;"
                + "mov pins not null side 15;set pins 31;set dirs 31;raise 0;load y 0;mov isr x;in x 3;";
        for (int times = 1; times <= 3; times++) {
            PinEngines x = new PinEngines();
            for (int i = 0; i < times; i++) {
                useEverything(x);
            }
            Checks.load(x, plain);
            PinEngines y = Checks.loaded(plain);
            Checks.due("the state after " + times + " programs", Checks.brief(x), Checks.brief(y));
            x.run(20);
            y.run(20);
            Checks.due("the state after 20 cycles", Checks.brief(x), Checks.brief(y));
        }
    }

    @Sentence(of = "Promise 3", says = "which replaces everything: the clock and all counts are 0, all pins, flags, "
            + "the memory and the port are as at first (but for the levels that the program gives), "
            + "and the undo history and the snapshot are discarded.")
    static void noPartOfAnEarlierInstructionStays() {
        String plain = "a:push;jmp a;wait 0 flag 0;in x 1;mov x y;pull;load x 3;set x 3;out x 3;raise 3;push;jmp a;";
        for (int times = 1; times <= 3; times++) {
            PinEngines x = new PinEngines();
            for (int i = 0; i < times; i++) {
                useEverything(x);
            }
            Checks.load(x, plain);
            PinEngines y = Checks.loaded(plain);
            for (int address = 0; address < 12; address++) {
                Checks.due("format(" + address + ")", Checks.format(x, address), Checks.format(y, address));
            }
        }
    }

    /** A program with every setting, which changes all that there is to change. */
    private static void useEverything(PinEngines x) {
        String settings = " start b clock 1 7 wrap b c outpins 3 16 setpins 2 5 sidepins 1 4 inpins 4 jumppin 3 inleft outleft"
                + " autopush 3 autopull 3 joinout;";
        Checks.due("load of everything", Checks.load(x, "level 0 1;level 15 1;engine 0" + settings + "engine 1" + settings
                + "engine 2" + settings + "a:wait 1 pin 3 side 3 delay 3;b:mov x not y side 4 delay 4;mov pins not null side 15 delay 1;"
                + "mov osr not null;out dirs 32 side 15;raise 3;store x 0;store x y;in x 2 delay 1;push iffull noblock;"
                + "mov osr reverse x;c:load y 5;"), 12);
        for (int i = 0; i < 16; i++) {
            x.poke(i, -7);
            x.drive(i, i & 1);
        }
        x.schedule(40, 8, 1);
        x.run(39);
        x.saveSnapshot();
    }

    @Sentence(of = "Promise 3", says = "which replaces everything: the clock and all counts are 0, all pins, flags, "
            + "the memory and the port are as at first (but for the levels that the program gives), "
            + "and the undo history and the snapshot are discarded.")
    static void sameProgramAgainStartsAnew() {
        PinEngines x = Checks.loaded(BUSY);
        String first = Checks.brief(x);
        x.run(9);
        x.put(1, 4);
        Checks.load(x, BUSY);
        Checks.due("the state is that at first", Checks.brief(x), first);
        Checks.due("the level that the program gives", x.level(2), 1);
        x.run(1);
        Checks.due("edges of the level that the program gives", x.edges(2), 0);
        Checks.due("highTime of the level that the program gives", x.highTime(2), 1);
    }

    @Sentence(of = "Promise 3", says = "The buffer is empty afterwards, also after an error.")
    static void loadEmptiesTheBuffer() {
        for (int length : new int[] {0, 1, 5, 20, 40}) {
            PinEngines x = new PinEngines();
            Checks.feed(x, "push;push;push;push;push;push;push;push;");
            boolean whole = length % 5 == 0;
            Checks.due("load(" + length + ")", x.load(length), whole ? length / 5 : -11);
            Checks.illegalArgument("load(1) after load(" + length + ")", () -> x.load(1));
            Checks.due("feed after load(" + length + ")", x.feed(SPACES, SPACES, SPACES, SPACES, SPACES), 20);
            Checks.due("the old bytes are gone", x.load(20), 0);
        }
    }

    @Sentence(of = "Promise 3", says = "Returns the number of instructions; "
            + "-10 minus the error code if the text has an error (then only the buffer and the error position change).")
    static void loadAnswersTheNumberOfInstructions() {
        PinEngines x = new PinEngines();
        for (int count : new int[] {0, 1, 2, 31, 32}) {
            Checks.due("load", Checks.load(x, "pull;".repeat(count)), count);
            Checks.due("instructionCount", x.instructionCount(), count);
        }
        Checks.due("load of 33 instructions", Checks.load(x, "pull;".repeat(33)), -13);
        Checks.due("instructionCount", x.instructionCount(), 32);
    }

    @Sentence(of = "Promise 3", says = "-10 minus the error code if the text has an error "
            + "(then only the buffer and the error position change).")
    static void loadWithEachError() {
        String[] texts = {"push", "level 16 0;", "level 5 1;" + "push;".repeat(33), "a:push;engine 0 start a;a:push;",
            "engine 0 start b;level 6 1;a:jmp c;"};
        int[] positions = {4, 6, 170, 24, 15};
        for (int code = 1; code <= 5; code++) {
            PinEngines x = Checks.loaded("level 7 1;" + BUSY);
            x.run(7);
            x.poke(3, 3);
            x.saveSnapshot();
            x.format(0);
            Checks.due("load with the error " + code, Checks.load(x, texts[code - 1]), -10 - code);
            Checks.due("its position", x.errorPosition(), positions[code - 1]);
            Checks.illegalArgument("load(1) of the emptied buffer", () -> x.load(1));
            nothingElseChanged(x);
        }
    }

    private static void nothingElseChanged(PinEngines x) {
        Checks.due("engines", x.engines(), 2);
        Checks.due("instructionCount", x.instructionCount(), 4);
        Checks.due("clock", x.clock(), 7);
        Checks.due("the levels", Checks.levels(x), 0x84);
        Checks.due("X", x.register(1, 0), 7);
        Checks.due("memory", x.memory(3) * 10 + x.memory(4), 37);
        Checks.due("formattedByte", x.formattedByte(0), 's');
        Checks.due("the program goes on", x.run(3), 3);
        Checks.due("undo of it", x.undo(), 2);
        Checks.due("undo of poke", x.undo(), 1);
        Checks.due("memory after it", x.memory(3), 0);
        Checks.due("undo of run", x.undo(), 0);
        Checks.due("clock after it", x.clock(), 0);
        Checks.due("restoreSnapshot", x.restoreSnapshot(), true);
        Checks.due("clock after restoreSnapshot", x.clock(), 7);
    }

    @Sentence(of = "Promise 3", says = "Throws `IllegalArgumentException` if length is negative "
            + "or greater than the number of bytes in the buffer (nothing changes)")
    static void loadOfAWrongLength() {
        PinEngines x = Checks.loaded(BUSY);
        x.run(5);
        Checks.load(x, "!");
        Checks.feed(x, "push;push;push;push;");
        String before = Checks.brief(x);
        for (int length : new int[] {-1, 21, 22, 1000, 1001, Integer.MIN_VALUE, Integer.MAX_VALUE}) {
            Checks.illegalArgument("load(" + length + ") of 20 bytes", () -> x.load(length));
        }
        Checks.due("the state after the exceptions", Checks.brief(x), before);
        Checks.due("the error position after the exceptions", x.errorPosition(), 0);
        Checks.due("undoCount after the exceptions", x.undoCount(), 1);
        Checks.due("the buffer after the exceptions", x.load(20), 4);
    }

    @Sentence(of = "Promise 3", says = "Throws `IllegalArgumentException` if length is negative "
            + "or greater than the number of bytes in the buffer (nothing changes)")
    static void loadOfAnEmptyBuffer() {
        PinEngines x = new PinEngines();
        Checks.illegalArgument("load(1) of an empty buffer", () -> x.load(1));
        Checks.illegalArgument("load(-1) of an empty buffer", () -> x.load(-1));
        Checks.due("load(0) of an empty buffer", x.load(0), 0);
    }

    @Sentence(of = "Promise 4", says = "NONE if that text had no error, or if there was no such call.")
    static void errorPositionWithoutError() {
        PinEngines x = new PinEngines();
        Checks.due("errorPosition without a call", x.errorPosition(), PinEngines.NONE);
        Checks.illegalArgument("load(1)", () -> x.load(1));
        Checks.illegalArgument("query(1)", () -> x.query(1));
        Checks.due("errorPosition after exceptions alone", x.errorPosition(), PinEngines.NONE);
        Checks.load(x, "push;!");
        Checks.due("errorPosition after an error", x.errorPosition(), 5);
        Checks.load(x, "push;");
        Checks.due("errorPosition after a program without error", x.errorPosition(), PinEngines.NONE);
        Checks.load(x, "!");
        Checks.query(x, "many 0=0");
        Checks.due("errorPosition after a query without error", x.errorPosition(), PinEngines.NONE);
    }

    @Sentence(of = "Promise 4", says = "Returns the position of the first byte of the token with the error, "
            + "for the most recent call of load or query that read the buffer; NONE")
    static void errorPositionOfTheMostRecentCall() {
        PinEngines x = new PinEngines();
        Checks.load(x, "push;push 12;");
        Checks.due("errorPosition of a number", x.errorPosition(), 10);
        Checks.illegalArgument("load(1)", () -> x.load(1));
        Checks.illegalArgument("query(201)", () -> x.query(201));
        Checks.due("errorPosition after exceptions", x.errorPosition(), 10);
        Checks.query(x, "many word=0");
        Checks.due("errorPosition of a query", x.errorPosition(), 5);
        Checks.load(x, "pushing;");
        Checks.due("errorPosition of a word", x.errorPosition(), 7);
        Checks.load(x, "!");
        Checks.due("errorPosition of the first byte", x.errorPosition(), 0);
    }

    @Sentence(of = "Promise 4", says = "Returns the position of the first byte of the token with the error")
    static void errorPositionAtTheEnds() {
        PinEngines x = new PinEngines();
        Checks.load(x, " ".repeat(999) + "!");
        Checks.due("errorPosition of the last of 1000 bytes", x.errorPosition(), 999);
        Checks.load(x, "push" + " ".repeat(996));
        Checks.due("errorPosition of the end of 1000 bytes", x.errorPosition(), 1000);
        Checks.query(x, "");
        Checks.due("errorPosition of an empty query", x.errorPosition(), 0);
        Checks.query(x, "many" + " ".repeat(196));
        Checks.due("errorPosition of the end of 200 bytes", x.errorPosition(), 200);
    }
}
