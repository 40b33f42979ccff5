/** Promises 1 to 6: a new object, feed, load with every error code, errorPosition. */
public final class TextTest {
    private static final int ANY = -2;

    public static void main(String[] args) {
        newObject();
        feeding();
        loading();
        loadReplacesEverything();
        reloading();
        loadWithErrorChangesNothing();
        tokens();
        wrongTokens();
        reservedWords();
        earlyEnds();
        ranges();
        tooManyInstructions();
        definedAlready();
        unknownNames();
        smallestCodeAndFirstToken();
        repeatedSettings();
        Checks.finish("TextTest");
    }

    private static void newObject() {
        PinEngines x = new PinEngines();
        Checks.due("instructionCount of a new object", x.instructionCount(), 0);
        Checks.due("engines of a new object", x.engines(), 0);
        Checks.due("clock of a new object", x.clock(), 0);
        Checks.due("errorPosition of a new object", x.errorPosition(), PinEngines.NONE);
        Checks.due("portOwner of a new object", x.portOwner(), PinEngines.NONE);
        Checks.due("undoCount of a new object", x.undoCount(), 0);
        Checks.due("undo of a new object", x.undo(), PinEngines.NONE);
        Checks.due("restoreSnapshot of a new object", x.restoreSnapshot(), false);
        Checks.due("formattedByte of a new object", x.formattedByte(0), PinEngines.NONE);
        Checks.due("levels of a new object", Checks.levels(x), 0);
        Checks.due("outputs of a new object", Checks.outputs(x), 0);
        Checks.due("flags of a new object", Checks.flags(x), 0);
        Checks.due("memory of a new object", x.memory(15), 0);
        Checks.due("levelAt of a new object", x.levelAt(0, 0), PinEngines.NONE);
        Checks.noSuchElement("pc of a new object", () -> x.pc(0));
        Checks.noSuchElement("format of a new object", () -> x.format(0));
        Checks.due("run of a new object", x.run(5), 0);
        Checks.due("clock after run", x.clock(), 5);
        Checks.due("drive of a new object", x.drive(3, 1), 1);
        Checks.due("stuck of a new object", x.stuck(10), 0);
        Checks.due("NONE", PinEngines.NONE, -1);
        Checks.due("HIDDEN", PinEngines.HIDDEN, -1000000000);
    }

    private static void feeding() {
        PinEngines x = new PinEngines();
        for (int i = 1; i <= 50; i++) {
            Checks.due("feed " + i, x.feed(0x20202020, 0x20202020, 0x20202020, 0x20202020, 0x2020200A), 20 * i);
        }
        Checks.due("feed of the 51st 20 bytes", x.feed(0, 0, 0, 0, 0), PinEngines.NONE);
        Checks.illegalArgument("load of 1001 bytes", () -> x.load(1001));
        Checks.due("load of 1000 bytes of space", x.load(1000), 0);
        Checks.due("feed into the emptied buffer", x.feed(0, 0, 0, 0, 0), 20);
        x.load(0);
        Checks.due("load of 1000 bytes", Checks.load(x, " ".repeat(995) + "push;"), 1);
        Checks.due("load of 1000 bytes", Checks.load(x, " ".repeat(996) + "push"), -11);
        Checks.due("errorPosition at the end of 1000 bytes", x.errorPosition(), 1000);
        Checks.due("load of 1000 tokens", Checks.load(x, ";".repeat(1000)), -11);
        Checks.due("load of 1000 tokens", Checks.load(x, "a:push;" + "1".repeat(993)), -11);
        Checks.due("errorPosition", x.errorPosition(), 7);
        Checks.due("load of many names", Checks.load(x, "a:push;engine 0 start a" + " wrap a a".repeat(108) + ";"), 1);
        Checks.feed(x, "raise 12;");
        Checks.due("load of a part of a number", x.load(7), -11);
        Checks.due("errorPosition", x.errorPosition(), 7);
        Checks.feed(x, "many x = pcx");
        Checks.due("query of a part of a word", x.query(11), 1);
        // Byte by byte, the most significant one first: "a:push;jmp a;push;;" with an error at 18.
        PinEngines y = new PinEngines();
        y.feed(0x613A7075, 0x73683B6A, 0x6D702061, 0x3B707573, 0x683B3B20);
        Checks.due("load of bytes", y.load(20), -11);
        Checks.due("errorPosition", y.errorPosition(), 18);
        y.feed(0x613A7075, 0x73683B6A, 0x6D702061, 0x3B707573, 0x683B3B20);
        Checks.due("load of the first bytes", y.load(18), 3);
        Checks.due("errorPosition", y.errorPosition(), PinEngines.NONE);
    }

    private static void loading() {
        PinEngines x = new PinEngines();
        Checks.illegalArgument("load(-1)", () -> x.load(-1));
        Checks.illegalArgument("load(1) of nothing", () -> x.load(1));
        Checks.illegalArgument("load(MIN_VALUE)", () -> x.load(Integer.MIN_VALUE));
        Checks.illegalArgument("load(MAX_VALUE)", () -> x.load(Integer.MAX_VALUE));
        Checks.due("load(0)", x.load(0), 0);
        int length = Checks.feed(x, "push;");
        Checks.illegalArgument("load(21) of 20 bytes", () -> x.load(21));
        Checks.due("load after the exception", x.load(length), 1);
        Checks.due("instructionCount", x.instructionCount(), 1);
        Checks.illegalArgument("load(1) of the emptied buffer", () -> x.load(1));
        Checks.feed(x, "push;wrong");
        Checks.due("load with an error", x.load(10), -11);
        Checks.illegalArgument("load(1) after the error", () -> x.load(1));
        Checks.due("engines", Checks.loaded("a:push;engine 3 start a;engine 0 start a;").engines(), 9);
    }

    private static void loadReplacesEverything() {
        PinEngines x = Checks.loaded("engine 0 start a setpins 0 5;engine 1 start b;"
                + "a:set dirs 31;set pins 31;raise 3;store x 2;in x 5;push;b:load y 1;");
        x.poke(1, 99);
        x.drive(9, 1);
        x.schedule(50, 3, 1);
        x.run(20);
        x.put(0, 5);
        x.saveSnapshot();
        x.format(0);
        Checks.due("load", Checks.load(x, "level 4 1;level 6 1;level 6 0;engine 2 start z;z:pull;"), 1);
        Checks.due("instructionCount", x.instructionCount(), 1);
        Checks.due("engines", x.engines(), 4);
        Checks.due("clock", x.clock(), 0);
        Checks.due("levels", Checks.levels(x), 16);
        Checks.due("latches", Checks.latches(x), 0);
        Checks.due("outputs", Checks.outputs(x), 0);
        Checks.due("flags", Checks.flags(x), 0);
        Checks.due("memory(1)", x.memory(1), 0);
        Checks.due("portOwner", x.portOwner(), PinEngines.NONE);
        Checks.due("undoCount", x.undoCount(), 0);
        Checks.due("undo", x.undo(), PinEngines.NONE);
        Checks.due("restoreSnapshot", x.restoreSnapshot(), false);
        Checks.due("levelAt", x.levelAt(0, 0), PinEngines.NONE);
        Checks.due("edges", x.edges(0), 0);
        Checks.due("highTime", x.highTime(9), 0);
        Checks.due("the scheduled levels are gone", x.schedule(0, 3, 1), 1);
        Checks.due("formattedByte keeps the text as it was", x.formattedByte(0), 's');
        Checks.noSuchElement("pc of an engine that is gone", () -> x.pc(0));
        int[] first = {0, 0, 0, 0};
        for (int which = 0; which < 4; which++) {
            Checks.due("register", x.register(2, which), first[which]);
        }
        Checks.due("spent", x.spent(2), 32);
        Checks.due("fill", x.fill(2), 0);
        Checks.due("isEnabled", x.isEnabled(2), true);
        for (int what = 0; what < 6; what++) {
            Checks.due("count", x.count(2, what), 0);
        }
        // The same text again: everything starts once more.
        x.run(10);
        Checks.due("count of stalls", x.count(2, 1), 10);
        Checks.load(x, "engine 2 start z;z:pull;");
        Checks.due("count of stalls after load", x.count(2, 1), 0);
        Checks.due("stall after load", x.stall(2), 0);
    }

    /** What one program leaves must not be seen in a later one, whose rows may be the same. */
    private static void reloading() {
        PinEngines x = new PinEngines();
        String full = "level 0 1;level 9 1;";
        for (int e = 0; e < 4; e++) {
            full += "engine " + e + " start c clock 3 3 wrap c d outpins 3 4 setpins 5 5 sidepins 7 4 inpins 4 jumppin 3"
                    + " inleft outleft autopush 3 autopull 3 " + (e < 2 ? "joinin;" : "joinout;");
        }
        full += "a:wait 1 pin 3 side 3 delay 3;b:mov x not y side 4 delay 4;c:raise 3 side 15 delay 3;store x y;"
                + "d:in isr 9;push iffull noblock;load x 5;";
        for (int i = 0; i < 3; i++) {
            Checks.due("load", Checks.load(x, full), 7);
            x.run(50);
            x.poke(0, 7);
            x.poke(15, 7);
            x.drive(8, 1);
            x.run(3);
        }
        String plain = "engine 0 start a;engine 1 start a;engine 2 start a;a:push;jmp a;in x 1;out x 1;mov pins not null"
                + " side 15;set pins 31;set dirs 31;mov osr not null;out x 3;in x 2;pull;";
        for (int i = 0; i < 3; i++) {
            Checks.due("load", Checks.load(x, plain), 11);
            PinEngines y = Checks.loaded(plain);
            Checks.due("engines", x.engines(), 7);
            for (int address = 0; address < 11; address++) {
                Checks.due("format", Checks.format(x, address), Checks.format(y, address));
            }
            Checks.due("the state of a later program", Checks.state(x), Checks.state(y));
            for (int cycle = 0; cycle < 9; cycle++) {
                x.run(1);
                y.run(1);
                Checks.due("the state of a later program", Checks.state(x), Checks.state(y));
            }
            Checks.due("the room of its queues", x.put(0, 1) + x.put(0, 1) + x.put(0, 1) + x.put(0, 1) + x.put(0, 1), 8);
            Checks.due("the room of its queues", x.put(2, 1) + x.put(2, 1) + x.put(2, 1) + x.put(2, 1) + x.put(2, 1), 8);
        }
        String straight = "level 0 1;engine 0 start a;engine 1 start a;engine 2 start a;a:in null 1;out null 1;in isr 3;"
                + "mov pins not null;set pins 31 side 15;set dirs 31;mov osr not null;out x 3;in x 2;mov y pins;in y 32;"
                + "jmp pin a;";
        for (int i = 0; i < 2; i++) {
            Checks.load(x, full);
            Checks.load(x, full);
            x.run(99);
            Checks.load(x, straight);
            PinEngines y = Checks.loaded(straight);
            for (int cycle = 0; cycle < 15; cycle++) {
                x.run(1);
                y.run(1);
                Checks.due("the state of a later program", Checks.state(x), Checks.state(y));
            }
        }
    }

    private static void loadWithErrorChangesNothing() {
        PinEngines x = Checks.loaded("level 2 1;engine 1 start a;a:set x 7;jmp a;");
        x.run(3);
        x.saveSnapshot();
        Checks.due("load with an error", Checks.load(x, "level 3 1;engine 0 start b;b:jmp c;"), -15);
        Checks.due("errorPosition", x.errorPosition(), 33);
        Checks.due("instructionCount", x.instructionCount(), 2);
        Checks.due("engines", x.engines(), 2);
        Checks.due("clock", x.clock(), 3);
        Checks.due("levels", Checks.levels(x), 4);
        Checks.due("register", x.register(1, 0), 7);
        Checks.due("format", Checks.format(x, 1), "jmp 0");
        Checks.due("undoCount", x.undoCount(), 1);
        Checks.due("run goes on", x.run(2), 2);
        Checks.due("pc", x.pc(1), 1);
        Checks.due("restoreSnapshot", x.restoreSnapshot(), true);
        Checks.due("clock", x.clock(), 3);
        Checks.illegalArgument("load(21)", () -> x.load(21));
        Checks.due("errorPosition after an exception", x.errorPosition(), 33);
        Checks.load(x, "");
        Checks.due("errorPosition after a text without error", x.errorPosition(), PinEngines.NONE);
    }

    private static void tokens() {
        ok("spaces and line feeds", " \n a \n : \n jmp \n a \n ; \n ", 1);
        ok("no spaces", "engine0start a clock1 0inpins3;a:wait1pin5side3delay31;set x5;", 2);
        ok("leading zeros", "engine 0003 start a clock 0255 000000000000000000000000;a:in x 00032;", 1);
        ok("a long label", "abcdefghijklmnopqrstuvwxyzabcdefghijklmnopqrstuvwxyz:push;"
                + "jmp abcdefghijklmnopqrstuvwxyzabcdefghijklmnopqrstuvwxyz;", 2);
        ok("labels that begin alike", "ab:push;abc:push;a:push;jmp a;jmp ab;jmp abc;", 6);
        ok("nothing", "", 0);
        ok("a word of the document that no grammar quotes", "value:push;jmp value;program:push;number:push;", 4);
        bad("a tab", "push\t;", 1, 4);
        bad("a carriage return", "push;\r\npush;", 1, 5);
        bad("a capital letter", "Push;", 1, 0);
        bad("a byte above 127", "push;\u00e9", 1, 5);
        bad("the byte 255", "\u00ff", 1, 0);
        bad("the byte 0", "push\u0000;", 1, 4);
        bad("a sign of queries", "push(", 1, 4);
        bad("a sign in a number", "in x -5;", 1, 5);
        bad("a label with a digit", "a1:push;", 1, 1);
    }

    private static void wrongTokens() {
        bad("a lonely semicolon", ";", 1, 0);
        bad("a number at first", "5;", 1, 0);
        bad("a setting at first", "clock 1 0;", 1, 0);
        bad("a condition at first", "xzero;", 1, 0);
        bad("a query word at first", "many;", 1, 0);
        bad("two labels", "a:b:push;", 1, 2);
        bad("a label at an engine", "a:engine 0 start a;", 1, 2);
        bad("a label at a level", "a:level 0 1;", 1, 2);
        bad("a name without colon", "a push;", 1, 2);
        bad("delay before side", "push delay 3 side 1;", 1, 13);
        bad("two sides", "push side 3 side 1;", 1, 12);
        bad("noblock before iffull", "push noblock iffull;", 1, 13);
        bad("ifempty at push", "push ifempty;", 1, 5);
        bad("iffull at pull", "pull iffull;", 1, 5);
        bad("noblock before ifempty", "pull noblock ifempty;", 1, 13);
        bad("engine without number", "engine start a;", 1, 7);
        bad("engine without start", "engine 0 a;", 1, 9);
        bad("start without name", "engine 0 start 5;", 1, 15);
        bad("start with a quoted word", "engine 0 start push;", 1, 15);
        bad("no setting", "engine 0 start a side 1;", 1, 17);
        bad("wrap with one name", "engine 0 start a wrap a;a:push;", 1, 23);
        bad("jmp to a number", "jmp 0;", 1, 4);
        bad("two conditions", "jmp xzero yzero a;", 1, 10);
        bad("condition flag", "jmp flag a;", 1, 4);
        bad("wait without level", "wait pin 1;", 1, 5);
        bad("wait for a name", "wait 1 a 1;", 1, 7);
        bad("in from status", "in status 1;", 1, 3);
        bad("in from dirs", "in dirs 1;", 1, 3);
        bad("in from pc", "in pc 1;", 1, 3);
        bad("in without bits", "in x;", 1, 4);
        bad("out to osr", "out osr 1;", 1, 4);
        bad("out to status", "out status 1;", 1, 4);
        bad("mov to dirs", "mov dirs x;", 1, 4);
        bad("mov to null", "mov null x;", 1, 4);
        bad("mov to status", "mov status x;", 1, 4);
        bad("mov from dirs", "mov x dirs;", 1, 6);
        bad("mov from pc", "mov x pc;", 1, 6);
        bad("mov not reverse", "mov x not reverse y;", 1, 10);
        bad("mov not without source", "mov x not;", 1, 9);
        bad("set isr", "set isr 1;", 1, 4);
        bad("set pc", "set pc 1;", 1, 4);
        bad("set null", "set null 1;", 1, 4);
        bad("set without value", "set x y;", 1, 6);
        bad("raise without number", "raise x;", 1, 6);
        bad("load isr", "load isr 1;", 1, 5);
        bad("load pins", "load pins 1;", 1, 5);
        bad("store osr", "store osr 1;", 1, 6);
        bad("place isr", "load x isr;", 1, 7);
        bad("place name", "store x a;", 1, 8);
        bad("one token too many", "level 1 1 1;", 1, 10);
        bad("no semicolon", "push pull;", 1, 5);
    }

    private static void reservedWords() {
        for (String word : Document.QUOTED_WORDS) {
            bad("the quoted word " + word + " as a name", "engine 0 start " + word + " ;a:push;", 1, 15);
            PinEngines x = new PinEngines();
            Checks.due("load with the label " + word, Checks.load(x, word + ":push;"), -11);
        }
        String instructions = " jmp wait in out push pull mov raise clear signal set load store engine level ";
        for (String word : Document.QUOTED_WORDS) {
            if (!instructions.contains(" " + word + " ")) {
                bad("the quoted word " + word + " at first", word + " 1;", 1, 0);
            }
        }
        for (String sign : ": ( ) < = > , . # A ? ' \"".split(" ")) {
            bad("the sign " + sign + " at first", sign + " 1;", 1, 0);
        }
        for (String word : new String[] {"engines", "startt", "xx", "an", "ors", "ma", "a", "z", "place", "test"}) {
            ok("the name " + word, word + ":push;jmp " + word + ";", 2);
        }
    }

    private static void earlyEnds() {
        String program = "engine 0 start a clock 1 0 wrap a a outpins 0 1 setpins 0 1 sidepins 0 1 inpins 0 jumppin 0"
                + " autopush 1 autopull 1;level 0 1;a:jmp xzero a side 1 delay 1;wait 1 pin 0;in x 1;out y 1;"
                + "push iffull noblock;mov x not y;raise 1;set x 1;load x 1;store y x;";
        ok("the whole program", program, 10);
        int instructions = 0;
        for (int length = 1; length < program.length(); length++) {
            boolean labelled = length > program.indexOf("a:jmp");
            if (program.charAt(length - 1) == ';') {
                instructions += labelled ? 1 : 0;
                PinEngines x = new PinEngines();
                Checks.feed(x, program);
                Checks.due("the first " + length + " bytes", x.load(length), labelled ? instructions : -15);
                Checks.due("errorPosition of the first " + length + " bytes", x.errorPosition(), labelled ? -1 : 15);
            } else if (!isLetter(program, length - 1) || !isLetter(program, length)) {
                bad("the first " + length + " bytes", program.substring(0, length), 1, length);
            }
        }
        bad("the end after spaces", "push  \n ", 1, 8);
        bad("the end after a label", "a:", 1, 2);
        bad("the end after a name", "a", 1, 1);
        bad("the end after an engine's number", "engine 0", 1, 8);
    }

    private static boolean isLetter(String text, int index) {
        return text.charAt(index) >= 'a' && text.charAt(index) <= 'z';
    }

    private static void ranges() {
        String[] starts = {"level ", "level 0 ", "a:push side ", "a:push delay ", "a:wait ", "a:wait 1 pin ",
            "a:wait 1 flag ", "a:in x ", "a:out x ", "a:raise ", "a:clear ", "a:signal ", "a:set x ", "a:load x ",
            "a:store x ", "engine ", "a:push;engine 0 start a clock ", "a:push;engine 0 start a clock 1 ",
            "a:push;engine 0 start a outpins ", "a:push;engine 0 start a outpins 0 ",
            "a:push;engine 0 start a setpins ", "a:push;engine 0 start a setpins 0 ",
            "a:push;engine 0 start a sidepins ", "a:push;engine 0 start a sidepins 0 ",
            "a:push;engine 0 start a inpins ", "a:push;engine 0 start a jumppin ",
            "a:push;engine 0 start a autopush ", "a:push;engine 0 start a autopull "};
        String[] ends = {" 1;", ";", ";", ";", " pin 1;", ";", ";", ";", ";", ";", ";", ";", ";", ";", ";",
            " start a;a:push;", " 0;", ";", " 1;", ";", " 1;", ";", " 1;", ";", ";", ";", ";", ";"};
        int[] lows = {0, 0, 0, 0, 0, 0, 0, 1, 1, 0, 0, 0, 0, 0, 0, 0, 1, 0, 0, 1, 0, 1, 0, 1, 0, 0, 1, 1};
        int[] highs = {15, 1, 15, 31, 1, 15, 7, 32, 32, 7, 7, 7, 31, 15, 15, 3, 255, 255, 15, 16, 15, 5, 15, 4, 15, 15,
            32, 32};
        for (int i = 0; i < starts.length; i++) {
            String start = starts[i];
            ok("the least number of " + start, start + lows[i] + ends[i], ANY);
            ok("the greatest number of " + start, start + highs[i] + ends[i], ANY);
            bad("a greater number of " + start, start + (highs[i] + 1) + ends[i], 2, start.length());
            bad("a huge number of " + start, start + "4294967296" + ends[i], 2, start.length());
            bad("a number of many digits of " + start, start + "100000000000000000000000000" + ends[i], 2,
                    start.length());
            if (lows[i] > 0) {
                bad("a smaller number of " + start, start + "0" + ends[i], 2, start.length());
            }
        }
    }

    private static void tooManyInstructions() {
        String full = "push;".repeat(32);
        ok("32 instructions", full, 32);
        bad("33 instructions", full + "push;", 3, 160);
        bad("the 33rd with a label: its first word is behind it", full + "a:push;", 3, 162);
        bad("the 33rd is no instruction", full + "a:xzero;", 1, 162);
        bad("the 33rd without its operand", full + "jmp", 3, 160);
        ok("32 instructions and an engine", "a:" + full + "engine 0 start a;level 1 1;", 32);
        bad("an error before the 33rd", "wait 2 pin 1;" + full, 2, 5);
        bad("a name without label and 33 instructions", "jmp a;" + full, 3, 161);
        bad("a label again at the 33rd", "a:" + full + "a:push;", 4, 162);
        String labelled = "";
        for (char c = 'a'; c < 'a' + 8; c++) {
            labelled += "l" + c + ":push;l" + c + c + ":push;l" + c + c + c + ":push;q" + c + ":push;";
        }
        ok("32 labels", labelled + "engine 0 start qh;", 32);
        bad("32 labels and the last one again", labelled + "qh:push;", 4, labelled.length());
        bad("33 labels", labelled + "other:push;", 3, labelled.length() + 6);
    }

    private static void definedAlready() {
        bad("an engine twice", "a:push;engine 1 start a;engine 1 start a;", 4, 31);
        bad("an engine twice, with zeros", "a:push;engine 1 start a;engine 01 start b;", 4, 31);
        bad("a name in place of the number", "a:push;engine 0 start a;engine a", 1, 31);
        bad("an engine out of range", "a:push;engine 1 start a;engine 4 start a;", 2, 31);
        bad("a label twice", "a:push;b:push;a:push;", 4, 14);
        bad("a label twice, without colon", "a:push;a push;", 4, 7);
        bad("a label twice, at the end", "a:push;a", 4, 7);
        ok("a label at four engines",
                "engine 0 start a;engine 1 start a;engine 2 start a;engine 3 start a;a:push;", 1);
        bad("a label only looks defined", "jmp a;a:push;a:push;", 4, 13);
    }

    private static void unknownNames() {
        bad("jmp", "a:jmp b;", 5, 6);
        bad("the first one", "a:jmp b;jmp c;", 5, 6);
        bad("start", "engine 0 start a;", 5, 15);
        bad("wrap's bottom", "engine 0 start a wrap b a;a:push;", 5, 22);
        bad("wrap's top", "engine 0 start a wrap a b;a:push;", 5, 24);
        bad("a wrap that does not count", "engine 0 start a wrap a b wrap a a;a:push;", 5, 24);
        bad("a longer name", "a:jmp aa;", 5, 6);
        bad("a shorter name", "aa:jmp a;", 5, 7);
        bad("only without another error", "jmp b;push", 1, 10);
        bad("only without another error", "jmp b;in x 33;", 2, 11);
        bad("only without another error", "jmp b;a:push;a:push;", 4, 13);
    }

    private static void smallestCodeAndFirstToken() {
        bad("the first error counts", "in x 33;in x ;", 2, 5);
        bad("the first error counts", "a:push;a:push 5;in x 99;", 4, 7);
        bad("a number out of range where a name is due", "jmp 99999;", 1, 4);
        bad("an unknown word at the 33rd", "push;".repeat(32) + ";", 1, 160);
    }

    private static void repeatedSettings() {
        PinEngines x = Checks.loaded("level 3 1;level 3 0;level 2 0;level 2 1;"
                + "engine 0 start a joinin joinout;engine 1 start a joinout joinin;engine 2 start a autopush 5 autopush 7"
                + " setpins 0 1 setpins 4 2 clock 9 9 clock 2 0 wrap a b wrap b b;a:set pins 31;b:set dirs 31;in x 5;");
        Checks.due("levels", Checks.levels(x), 4);
        Checks.due("put into a joined output", x.put(0, 1), -2);
        for (int i = 1; i <= 8; i++) {
            Checks.due("put into a joined input", x.put(1, i), i);
        }
        Checks.due("put into a full joined input", x.put(1, 1), -2);
        x.enable(0, false);
        x.enable(1, false);
        x.run(4);
        Checks.due("latches", Checks.latches(x), 0x30);
        Checks.due("count at the clock 2 0", x.count(2, 0), 2);
        Checks.due("outputs", Checks.outputs(x), 0x30);
        Checks.due("pc at the wrap b b", x.pc(2), 1);
    }

    private static void ok(String what, String text, int count) {
        PinEngines x = new PinEngines();
        int got = Checks.load(x, text);
        Checks.due(what + ": load of '" + text + "'", count == ANY ? Math.min(got, 0) : got, count == ANY ? 0 : count);
        Checks.due(what + ": errorPosition of '" + text + "'", x.errorPosition(), PinEngines.NONE);
    }

    private static void bad(String what, String text, int code, int position) {
        PinEngines x = new PinEngines();
        Checks.due(what + ": load of '" + text + "'", Checks.load(x, text), -10 - code);
        Checks.due(what + ": errorPosition of '" + text + "'", x.errorPosition(), position);
    }
}
