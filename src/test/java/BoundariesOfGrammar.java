/** The input text of programs: tokens, names, ranges of numbers, repeated settings and the error codes. */
final class BoundariesOfGrammar {
    private BoundariesOfGrammar() {
    }

    private static void ok(String text, int count) {
        PinEngines x = new PinEngines();
        Checks.due("load of '" + text + "'", Checks.load(x, text), count);
        Checks.due("errorPosition of '" + text + "'", x.errorPosition(), PinEngines.NONE);
    }

    private static void bad(String text, int code, int position) {
        PinEngines x = new PinEngines();
        Checks.due("load of '" + text + "'", Checks.load(x, text), -10 - code);
        Checks.due("errorPosition of '" + text + "'", x.errorPosition(), position);
    }

    /** The ends of a range between two parts of a text, the numbers beyond them, and some that an int would wrap. */
    private static void range(String before, String after, int low, int high) {
        for (String number : new String[] {"" + low, "" + high, "000" + low, "000" + high}) {
            PinEngines x = new PinEngines();
            Checks.due("load of '" + before + number + after + "'", Checks.load(x, before + number + after) > 0, true);
        }
        if (low > 0) {
            bad(before + (low - 1) + after, 2, before.length());
            bad(before + "000" + (low - 1) + after, 2, before.length());
        }
        bad(before + (high + 1) + after, 2, before.length());
        bad(before + (high + 256) + after, 2, before.length());
        bad(before + (low + 65536) + after, 2, before.length());
        bad(before + (low + 2147483648L) + after, 2, before.length());
        bad(before + (low + 4294967296L) + after, 2, before.length());
        bad(before + "1844674407370955161" + (6 + low) + after, 2, before.length());
        bad(before + "-" + low + after, 1, before.length());
    }

    @Sentence(of = "Input text", says = "every other byte except space (32) and line feed (10) is a token by itself.")
    static void everyByteBehindAWord() {
        for (int sign = 0; sign < 256; sign++) {
            String text = "push" + (char) sign + ";";
            if (sign == 32 || sign == 10) {
                ok(text, 1);
            } else if (sign == ';' || sign >= 'a' && sign <= 'z') {
                bad(text, 1, 5);
            } else {
                bad(text, 1, 4);
            }
        }
    }

    @Sentence(of = "Input text", says = "a word is a maximal run of the letters 'a' to 'z';")
    static void wordsFromAToZ() {
        ok("az:push;jmp az;", 2);
        ok("a:push;z:push;jmp a;jmp z;", 4);
        ok("z".repeat(992) + ":pull;", 1);
        bad("`:push;", 1, 0);
        bad("{:push;", 1, 0);
        bad("A:push;", 1, 0);
        bad("Z:push;", 1, 0);
        bad("a`:push;", 1, 1);
        bad("z{:push;", 1, 1);
        bad("pushz;", 1, 5);
        bad("pus;", 1, 3);
        bad("jmpa;", 1, 4);
        bad("pu sh;", 1, 3);
    }

    @Sentence(of = "Input text", says = "a number is a maximal run of decimal digits (leading zeros are allowed);")
    static void numbersFrom0To9() {
        ok("load x 0;load x 9;load x 00000000000;store x 000000000000000000009;", 4);
        ok("set x " + "0".repeat(990) + "31;", 1);
        bad("set x " + "0".repeat(990) + "32;", 2, 6);
        ok("engine0start a;a:set x5side1delay2;", 1);
        bad("load x /;", 1, 7);
        bad("load x 1/;", 1, 8);
        bad("load x :;", 1, 7);
        bad("load x 1:;", 1, 8);
        bad("load x 1 5;", 1, 9);
        bad("load x +1;", 1, 7);
        bad("load x -1;", 1, 7);
        bad("load x 1.5;", 1, 8);
    }

    @Sentence(of = "Input text", says = "Spaces and line feeds may appear between tokens.")
    static void spacesBetweenTokens() {
        ok("", 0);
        ok(" ", 0);
        ok("\n", 0);
        ok(" \n".repeat(500), 0);
        ok("a:push;jmp a;wait 1pin 5side 1delay 1;", 3);
        ok("\n a \n : \n push \n ; \n jmp \n a \n side \n 1 \n delay \n 1 \n ; \n ", 2);
        bad("push\r;", 1, 4);
        bad("\tpush;", 1, 0);
        bad("set x 1 1;", 1, 8);
    }

    @Sentence(of = "Input text", says = "A NAME is a word that is not quoted in the grammars of this document.")
    static void quotedWordsAreNoNames() {
        int words = 0;
        for (String word : Document.QUOTED_WORDS) {
            words++;
            bad("engine 0 start " + word + ";push;", 1, 15);
            PinEngines x = new PinEngines();
            Checks.due("load with the label " + word, Checks.load(x, word + ":push;"), -11);
            ok("q" + word + ":push;jmp q" + word + ";", 2);
            ok(word + "q:push;jmp " + word + "q;", 2);
        }
        Checks.due("the number of quoted words", words, 62);
    }

    @Sentence(of = "Input text", says = "'engine' engine (0 to 3)")
    static void engineRange() {
        range("engine ", " start a;a:push;", 0, 3);
    }

    @Sentence(of = "Input text", says = "'level' pin (0 to 15) level (0 or 1)")
    static void levelRanges() {
        range("push;level ", " 1;", 0, 15);
        range("push;level 15 ", ";", 0, 1);
    }

    @Sentence(of = "Input text", says = "['side' value (0 to 15)] ['delay' ticks (0 to 31)]")
    static void sideAndDelayRanges() {
        range("push side ", ";", 0, 15);
        range("push delay ", ";", 0, 31);
        range("push side ", " delay 31;", 0, 15);
        range("push side 15 delay ", ";", 0, 31);
    }

    @Sentence(of = "Input text", says = "'clock' n (1 to 255) f (0 to 255)")
    static void clockRanges() {
        range("a:push;engine 0 start a clock ", " 0;", 1, 255);
        range("a:push;engine 0 start a clock 1 ", ";", 0, 255);
    }

    @Sentence(of = "Input text", says = "'outpins' base (0 to 15) size (1 to 16)")
    static void outpinsRanges() {
        range("a:push;engine 0 start a outpins ", " 1;", 0, 15);
        range("a:push;engine 0 start a outpins 15 ", ";", 1, 16);
    }

    @Sentence(of = "Input text", says = "'setpins' base (0 to 15) size (1 to 5)")
    static void setpinsRanges() {
        range("a:push;engine 0 start a setpins ", " 1;", 0, 15);
        range("a:push;engine 0 start a setpins 15 ", ";", 1, 5);
    }

    @Sentence(of = "Input text", says = "'sidepins' base (0 to 15) size (1 to 4)")
    static void sidepinsRanges() {
        range("a:push;engine 0 start a sidepins ", " 1;", 0, 15);
        range("a:push;engine 0 start a sidepins 15 ", ";", 1, 4);
    }

    @Sentence(of = "Input text", says = "'inpins' base (0 to 15) | 'jumppin' pin (0 to 15)")
    static void inpinsAndJumppinRanges() {
        range("a:push;engine 0 start a inpins ", ";", 0, 15);
        range("a:push;engine 0 start a jumppin ", ";", 0, 15);
    }

    @Sentence(of = "Input text", says = "'autopush' limit (1 to 32) | 'autopull' limit (1 to 32)")
    static void limitRanges() {
        range("a:push;engine 0 start a autopush ", ";", 1, 32);
        range("a:push;engine 0 start a autopull ", ";", 1, 32);
    }

    @Sentence(of = "Input text", says = "'wait' level (0 or 1) ('pin' (0 to 15) | 'flag' (0 to 7))")
    static void waitRanges() {
        range("wait ", " pin 0;", 0, 1);
        range("wait ", " flag 0;", 0, 1);
        range("wait 1 pin ", ";", 0, 15);
        range("wait 1 flag ", ";", 0, 7);
    }

    @Sentence(of = "Input text", says = "'in' ('pins' | 'x' | 'y' | 'null' | 'isr' | 'osr') bits (1 to 32)")
    static void inRanges() {
        for (String source : "pins x y null isr osr".split(" ")) {
            range("in " + source + " ", ";", 1, 32);
        }
    }

    @Sentence(of = "Input text", says = "'out' ('pins' | 'x' | 'y' | 'null' | 'dirs' | 'pc' | 'isr') bits (1 to 32)")
    static void outRanges() {
        for (String target : "pins x y null dirs pc isr".split(" ")) {
            range("out " + target + " ", ";", 1, 32);
        }
    }

    @Sentence(of = "Input text", says = "('raise' | 'clear' | 'signal') flag (0 to 7) "
            + "| 'set' ('pins' | 'dirs' | 'x' | 'y') value (0 to 31)")
    static void flagAndSetRanges() {
        for (String operation : "raise clear signal".split(" ")) {
            range(operation + " ", ";", 0, 7);
        }
        for (String target : "pins dirs x y".split(" ")) {
            range("set " + target + " ", ";", 0, 31);
        }
    }

    @Sentence(of = "Input text", says = "number (0 to 15) | 'x' | 'y'")
    static void placeRanges() {
        for (String access : new String[] {"load x", "load y", "load osr", "store x", "store y", "store isr"}) {
            range(access + " ", ";", 0, 15);
            ok(access + " x;" + access + " y;", 2);
        }
    }

    @Sentence(of = "Input text", says = "| separates alternatives.")
    static void onlyTheAlternatives() {
        only("", " a;a:push;", "jmp");
        only("", " 1 pin 1;", "wait");
        only("", " x 1;", "in out set load store");
        only("", ";", "push pull");
        only("", " x y;", "mov load store");
        only("", " 1;", "raise clear signal");
        only("", " 1 1;", "level");
        only("a:", " 1;", "raise clear signal");
        only("a:", ";", "push pull");
        only("a", "push;", ":");
        only("push", "", ";");
        only("a:push;", " 1 start a;", "engine");
        only("a:push;engine 0 ", " a;", "start");
        only("a:push;engine 0 start a ", ";", "inleft outleft joinin joinout");
        only("a:push;engine 0 start a ", " 1;", "inpins jumppin autopush autopull");
        only("a:push;engine 0 start a ", " 1 1;", "clock outpins setpins sidepins");
        only("engine 0 start a ", " a a;a:push;", "wrap");
        only("a:jmp ", " a;", "xzero yzero xdec ydec differ pin more");
        only("wait 1 ", " 1;", "pin flag");
        only("in ", " 1;", "pins x y null isr osr");
        only("out ", " 1;", "pins x y null dirs pc isr");
        only("push ", ";", "iffull noblock");
        only("push iffull ", ";", "noblock");
        only("pull ", ";", "ifempty noblock");
        only("pull ifempty ", ";", "noblock");
        only("mov ", " x;", "pins x y pc isr osr");
        only("mov x ", " x;", "not reverse");
        only("mov x ", ";", "pins x y null status isr osr");
        only("mov x not ", ";", "pins x y null status isr osr");
        only("set ", " 1;", "pins dirs x y");
        only("load ", " 1;", "x y osr");
        only("store ", " 1;", "x y isr");
        only("load x ", ";", "x y");
        only("push ", " 1;", "side delay");
        only("push side 1 ", " 1;", "delay");
    }

    /** Of all quoted words and all signs those, and no others, may stand here: others are an error, or those behind them. */
    private static void only(String before, String after, String tokens) {
        for (String token : Document.wordsAndSigns()) {
            PinEngines x = new PinEngines();
            int got = Checks.load(x, before + token + after);
            boolean allowed = (" " + tokens + " ").contains(" " + token + " ");
            Checks.due("load of '" + before + token + after + "' has no error", got >= 0, allowed);
            if (!allowed) {
                Checks.due("the error of '" + before + token + after + "'", got, -11);
                Checks.due("its position is not before the token", x.errorPosition() >= before.length(), true);
            }
        }
    }

    @Sentence(of = "Input text", says = "* means any number of repetitions, brackets an optional part, "
            + "and | separates alternatives. The ranges of numbers are given in parentheses.")
    static void repetitionsAndOptionalParts() {
        ok("", 0);
        ok("level 0 1;", 0);
        ok("level 0 1;".repeat(100), 0);
        ok("a:push;engine 0 start a;", 1);
        ok("a:push;engine 0 start a" + " inleft".repeat(139) + ";", 1);
        ok("a:push;engine 0 start a inleft outleft joinin joinout clock 1 0 wrap a a outpins 0 1 setpins 0 1"
                + " sidepins 0 1 inpins 0 jumppin 0 autopush 1 autopull 1;", 1);
        ok("push;push iffull;push noblock;push iffull noblock;pull;pull ifempty;pull noblock;pull ifempty noblock;", 8);
        bad("push iffull iffull;", 1, 12);
        bad("push noblock noblock;", 1, 13);
        bad("mov x not not y;", 1, 10);
        bad("push side 1 side 1;", 1, 12);
        bad("push delay 1 delay 1;", 1, 13);
        bad("a:b:push;", 1, 2);
    }

    @Sentence(of = "Input text", says = "The name before ':' is the label of its instruction; "
            + "other names must be labels, which may be defined anywhere.")
    static void labelsAtTheEnds() {
        PinEngines x = Checks.loaded("engine 0 start tail wrap tail head;head:jmp tail;" + "push;".repeat(30)
                + "tail:jmp head;engine 3 start head;");
        Checks.due("pc of the start at the last instruction", x.pc(0), 31);
        Checks.due("pc of the start at the first one", x.pc(3), 0);
        Checks.due("format", Checks.format(x, 0), "jmp 31");
        Checks.due("format", Checks.format(x, 31), "jmp 0");
        ok("engine 0 start a;engine 1 start a;engine 2 start a;engine 3 start a;a:push;", 1);
        bad("engine 0 start a;push;", 5, 15);
        bad("engine 0 start a wrap a b;a:push;", 5, 24);
        bad("engine 0 start a wrap b a;a:push;", 5, 22);
        bad("a:jmp aa;", 5, 6);
        bad("aa:jmp a;", 5, 7);
    }

    @Sentence(of = "Input text", says = "The wrap of an engine without 'wrap' has no top.")
    static void withoutWrap() {
        PinEngines x = Checks.engine("", "push noblock;push noblock;push noblock;");
        for (int cycle = 0; cycle < 7; cycle++) {
            Checks.due("pc after " + cycle + " cycles", x.pc(0), cycle % 3);
            x.run(1);
        }
    }

    @Sentence(of = "Input text", says = "The clock setting is (1, 0), bases and the jump pin are 0, "
            + "and shifts go to the right without their settings.")
    static void withoutSettings() {
        PinEngines x = Checks.loaded("level 0 1;engine 0 start a;a:jmp pin b;push;b:wait 1 pin 0;in pins 1;mov osr isr;"
                + "out x 31;out y 1;");
        Checks.due("instructions in 5 cycles", x.run(5), 5);
        Checks.due("I, shifted to the right", x.register(0, 2), Integer.MIN_VALUE);
        Checks.due("X has the lowest 31 bits", x.register(0, 0), 0);
        Checks.due("O keeps the highest one", x.register(0, 3), 1);
    }

    @Sentence(of = "Input text", says = "'joinin' gives an input queue for 8 words and an output queue for 0 words, "
            + "'joinout' the reverse;")
    static void joinedQueues() {
        PinEngines in = Checks.engine("joinin", "push noblock;");
        for (int size = 1; size <= 8; size++) {
            Checks.due("put of word " + size, in.put(0, size), size);
        }
        Checks.due("put of word 9", in.put(0, 9), -2);
        Checks.due("the queue", Checks.words(in, 0, false), "[1 2 3 4 5 6 7 8]");
        in.run(1);
        Checks.due("the word is lost", in.count(0, 5), 1);
        PinEngines out = Checks.engine("joinout", "push noblock;");
        Checks.due("put", out.put(0, 1), -2);
        for (int size = 1; size <= 8; size++) {
            out.run(1);
            Checks.due("queueSize after " + size + " words", out.queueSize(0, true), size);
        }
        Checks.due("no word is lost before the ninth", out.count(0, 5), 0);
        out.run(1);
        Checks.due("queueSize after 9 words", out.queueSize(0, true), 8);
        Checks.due("the ninth word is lost", out.count(0, 5), 1);
    }

    @Sentence(of = "Input text", says = "a queue for 0 words is empty and full.")
    static void queuesForNoWords() {
        PinEngines in = Checks.engine("joinin", "push;");
        Checks.due("take from a joined input", in.take(0), -2);
        Checks.due("queueSize", in.queueSize(0, true), 0);
        Checks.due("queued", in.queued(0, true, 0), PinEngines.NONE);
        in.run(1);
        Checks.due("push stalls", in.stall(0), 3);
        PinEngines out = Checks.engine("joinout", "mov x status;pull;");
        Checks.due("put into a joined output", out.put(0, 1), -2);
        Checks.due("queueSize", out.queueSize(0, false), 0);
        Checks.due("queued", out.queued(0, false, 0), PinEngines.NONE);
        out.run(2);
        Checks.due("status", out.register(0, 0), -1);
        Checks.due("pull stalls", out.stall(0), 2);
    }

    @Sentence(of = "Input text", says = "If a setting, or the level of a pin, is repeated, or both joins occur, "
            + "the last one counts.")
    static void repeatedSettings() {
        PinEngines x = Checks.loaded("level 0 1;level 0 0;level 14 1;level 14 0;level 15 0;level 15 1;level 15 1;"
                + "engine 0 start b clock 9 9 clock 1 0 wrap a a wrap c b outpins 4 9 outpins 9 1 setpins 3 5 setpins 5 2"
                + " sidepins 2 4 sidepins 12 1 inpins 3 inpins 0 jumppin 1 jumppin 15;"
                + "a:push;b:jmp pin c side 3;c:set pins 31;d:mov pins not null;wait 1 pin 15;");
        Checks.due("the levels", Checks.levels(x), 0x8000);
        x.run(1);
        Checks.due("jumppin 15", x.pc(0), 2);
        Checks.due("sidepins 12 1", Checks.latches(x), 0x1000);
        x.run(1);
        Checks.due("setpins 5 2", Checks.latches(x), 0x1060);
        x.run(1);
        Checks.due("outpins 9 1", Checks.latches(x), 0x1260);
        Checks.due("inpins 0", x.run(1), 1);
        Checks.due("wrap c b: the pc after d and wait", x.pc(0), 0);
        x.run(2);
        Checks.due("wrap c b: the pc after b", x.pc(0), 2);
    }

    @Sentence(of = "Input text", says = "If a setting, or the level of a pin, is repeated, or both joins occur, "
            + "the last one counts.")
    static void repeatedLimitsAndJoins() {
        PinEngines x = Checks.loaded("engine 0 start a autopush 1 autopush 2 autopull 3 autopull 2;a:in null 1;in null 1;"
                + "mov osr null;out null 1;out null 1;out null 1;engine 1 start a joinin joinout;"
                + "engine 2 start a joinout joinin;engine 3 start a joinin joinout joinin;");
        x.run(1);
        Checks.due("below autopush 2", x.queueSize(0, true), 0);
        x.run(1);
        Checks.due("at autopush 2", x.queueSize(0, true), 1);
        x.run(3);
        Checks.due("below autopull 2", x.stall(0), 0);
        x.run(1);
        Checks.due("at autopull 2", x.stall(0), 2);
        Checks.due("joinin joinout", x.put(1, 1), -2);
        for (int engine = 2; engine < 4; engine++) {
            for (int size = 1; size <= 8; size++) {
                Checks.due("joinout joinin", x.put(engine, 1), size);
            }
        }
    }

    @Sentence(of = "Input text", says = "The text is checked token by token, "
            + "and the first token with an error determines the result.")
    static void firstErrorCounts() {
        bad("level 16 2;!", 2, 6);
        bad("level 15 2;!", 2, 9);
        bad("level 15 1;!", 1, 11);
        bad("a:push;a:push 16 side 16;", 4, 7);
        bad("a:push;push 16 side 16;", 1, 12);
        bad("push;".repeat(32) + "jmp 99;", 3, 160);
        bad("push;".repeat(31) + "jmp 99;push;", 1, 159);
    }

    @Sentence(of = "Input text", says = "If several codes apply to one token, the smallest one counts.")
    static void smallestCodeCounts() {
        bad("jmp 99999;", 1, 4);
        bad("engine 3 start 4;", 1, 15);
        bad("a:push;engine 0 start a;engine 0 start a;engine 4 start a;", 4, 31);
        bad("a:push;engine 0 start a;engine 4 start a;", 2, 31);
        bad("push;".repeat(32) + "99999;", 1, 160);
        bad("push;".repeat(32) + "side;", 1, 160);
    }

    @Sentence(of = "Input text", says = "Code 5 is reported only if there is no other error.")
    static void code5IsTheLast() {
        bad("jmp b;", 5, 4);
        bad("jmp b;a:push", 1, 12);
        bad("jmp b;level 16 0;", 2, 12);
        bad("jmp b;" + "push;".repeat(32), 3, 161);
        bad("jmp b;a:push;a:push;", 4, 13);
        bad("engine 0 start b;jmp c", 1, 22);
    }

    @Sentence(of = "Input text", says = "1: the token is not allowed here, or the text ends too early "
            + "(the position is then the length of the text).")
    static void code1AtTheEnds() {
        bad("!", 1, 0);
        bad("push;!", 1, 5);
        bad("push", 1, 4);
        bad("push \n ", 1, 7);
        bad("a", 1, 1);
        bad("a:", 1, 2);
        bad("a:push side", 1, 11);
        bad("engine", 1, 6);
        bad("engine 0 start a", 1, 16);
        ok("push;", 1);
        PinEngines x = new PinEngines();
        Checks.feed(x, "push;push;");
        Checks.due("load of the first 9 bytes", x.load(9), -11);
        Checks.due("its position", x.errorPosition(), 9);
    }

    @Sentence(of = "Input text", says = "2: a number is out of range.")
    static void code2BeforeTheEnd() {
        bad("set x 32", 2, 6);
        bad("set x 32 !", 2, 6);
        bad("set x 31", 1, 8);
        bad("set x 99999999999999999999999999999999999999999999999999", 2, 6);
    }

    @Sentence(of = "Input text", says = "3: the first word of the 33rd instruction;")
    static void code3() {
        ok("push;".repeat(32), 32);
        bad("push;".repeat(33), 3, 160);
        bad("push;".repeat(32) + " \n pull noblock;", 3, 163);
        bad("push;".repeat(32) + "level 0 1;engine 0 start a;push", 3, 187);
        ok("a:" + "push;".repeat(32) + "engine 0 start a;level 15 1;", 32);
        bad("push;".repeat(32) + "xzero;", 1, 160);
        // The grammar's instruction begins behind the label.
        bad("push;".repeat(32) + "a:push;", 3, 162);
        bad("push;".repeat(32) + "a:", 1, 162);
        bad("push;".repeat(32) + "a", 1, 161);
    }

    @Sentence(of = "Input text", says = "4: the number of an engine that is defined already;")
    static void code4OfEngines() {
        bad("engine 0 start a;engine 0 start a;a:push;", 4, 24);
        bad("engine 3 start a;engine 003 start a;a:push;", 4, 24);
        bad("engine 0 start a;engine a start a;a:push;", 1, 24);
        bad("engine 0 start a;engine ;", 1, 24);
        bad("engine 0 start a;engine 1 start a;engine 2 start a;engine 3 start a;engine 0", 4, 75);
        ok("engine 3 start a;engine 2 start a;engine 1 start a;engine 0 start a;a:push;", 1);
    }

    @Sentence(of = "Input text", says = "a NAME at the beginning of a clause that is a label already.")
    static void code4OfLabels() {
        bad("a:push;a:push;", 4, 7);
        bad("a:push;a", 4, 7);
        ok("a:push;aa:push;", 2);
        ok("aa:push;a:push;", 2);
        StringBuilder labels = new StringBuilder();
        for (int i = 0; i < 32; i++) {
            labels.append("l").append((char) ('a' + i % 26)).append((char) ('a' + i / 26)).append(":push;");
        }
        ok(labels.toString(), 32);
        bad(labels + "lfb:pull;", 4, 288);
        bad(labels + "laa:pull;", 4, 288);
        bad(labels + "lgb:pull;", 3, 292);
    }

    @Sentence(of = "Input text", says = "5: the first NAME that is not a label.")
    static void code5() {
        bad("a:jmp b;jmp c;", 5, 6);
        bad("engine 0 start b;a:jmp c;", 5, 15);
        bad("a:jmp c;engine 0 start b;", 5, 6);
        bad("a:jmp a;engine 0 start a wrap a b wrap a a;", 5, 32);
        ok("a:jmp a;engine 0 start a wrap a a;", 1);
    }
}
