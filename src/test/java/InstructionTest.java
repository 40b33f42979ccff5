/** What the instructions do, when they stall, side outputs, delays and the next address. */
public final class InstructionTest {
    public static void main(String[] args) {
        jumps();
        waits();
        shiftsIn();
        automaticPush();
        shiftsOut();
        outTargets();
        automaticPull();
        pushes();
        pulls();
        moves();
        sets();
        groups();
        flags();
        signals();
        memory();
        sideOutputs();
        delays();
        addresses();
        Checks.finish("InstructionTest");
    }

    /** The next address after a jump with this condition to b (3); it stands at 2. */
    private static void jump(String what, String settings, String before, String condition, int pc) {
        PinEngines x = Checks.loaded("level 7 1;engine 0 start a " + settings + ";a:" + before
                + "jmp " + condition + " b;push;b:push;");
        int count = x.instructionCount();
        x.run(count - 3);
        Checks.due(what + ": pc before the jump", x.pc(0), count - 3);
        Checks.due(what + ": instructions done by the jump", x.run(1), 1);
        Checks.due(what + ": pc after the jump", x.pc(0), pc == 1 ? count - 1 : count - 2);
    }

    private static void jumps() {
        jump("always", "", "", "", 1);
        jump("xzero", "", "", "xzero", 1);
        jump("xzero not", "", "set x 1;", "xzero", 0);
        jump("yzero", "", "set x 1;", "yzero", 1);
        jump("yzero not", "", "set y 1;", "yzero", 0);
        jump("differ", "", "set x 1;", "differ", 1);
        jump("differ not", "", "set x 1;set y 1;", "differ", 0);
        jump("pin", "jumppin 7", "", "pin", 1);
        jump("pin not", "jumppin 8", "", "pin", 0);
        jump("the jump pin does not depend on the input base", "jumppin 7 inpins 1", "", "pin", 1);
        jump("the jump pin without setting", "", "", "pin", 0);
        jump("more at first", "", "", "more", 0);
        jump("more", "", "mov osr x;out null 31;", "more", 1);
        jump("more at the limit", "", "mov osr x;out null 32;", "more", 0);
        jump("more below autopull", "autopull 9", "mov osr x;out null 8;", "more", 1);
        jump("more at autopull", "autopull 8", "mov osr x;out null 8;", "more", 0);
        PinEngines x = Checks.engine("", "set x 2;b:jmp xdec b;jmp ydec c;set y 1;c:jmp ydec c;push;");
        int[] pcs = {1, 1, 1, 2, 3, 4, 4, 5};
        int[] xs = {2, 1, 0, -1, -1, -1, -1, -1};
        int[] ys = {0, 0, 0, 0, -1, 1, 0, -1};
        for (int i = 0; i < pcs.length; i++) {
            x.run(1);
            Checks.due("pc with xdec and ydec", x.pc(0), pcs[i]);
            Checks.due("X with xdec", x.register(0, 0), xs[i]);
            Checks.due("Y with ydec", x.register(0, 1), ys[i]);
        }
    }

    private static void waits() {
        PinEngines x = Checks.engine("inpins 12", "wait 1 pin 5;wait 0 pin 5;wait 1 pin 15;push;");
        Checks.due("run at the pin (12 + 5) mod 16", x.run(3), 0);
        Checks.due("stall", x.stall(0), 1);
        Checks.due("count of stalls", x.count(0, 1), 3);
        x.drive(1, 1);
        Checks.due("run", x.run(2), 1);
        Checks.due("stall", x.stall(0), 1);
        Checks.due("pc", x.pc(0), 1);
        x.drive(1, 0);
        Checks.due("run", x.run(1), 1);
        Checks.due("stall", x.stall(0), 0);
        x.drive(11, 1);
        Checks.due("run", x.run(1), 1);
        Checks.due("pc", x.pc(0), 3);

        PinEngines y = Checks.loaded("engine 0 start a;engine 1 start b;"
                + "a:wait 1 flag 6;wait 0 flag 6;push;b:push;push;raise 6;push noblock;");
        Checks.due("run until the flag is raised", y.run(3), 3);
        Checks.due("flag", y.flag(6), 1);
        Checks.due("pc", y.pc(0), 0);
        y.run(1);
        Checks.due("pc", y.pc(0), 1);
        Checks.due("wait 1 flag clears the flag", y.flag(6), 0);
        y.run(1);
        Checks.due("pc", y.pc(0), 2);

        PinEngines z = Checks.loaded("engine 0 start a;a:raise 2;wait 0 flag 2;");
        z.run(3);
        Checks.due("stall at wait 0 flag", z.stall(0), 1);
        Checks.due("wait 0 flag leaves the flag", z.flag(2), 1);
    }

    private static void shiftsIn() {
        PinEngines x = Checks.ran(4, "", "set x 21;in x 3;in x 5;in x 1;push;");
        Checks.due("I from the left", x.register(0, 2), 0b1_10101_101 << 23);
        Checks.due("fill", x.fill(0), 9);
        x = Checks.ran(4, "inleft", "set x 21;in x 3;in x 5;in x 1;push;");
        Checks.due("I from the right", x.register(0, 2), 0b101_10101_1);
        x = Checks.ran(3, "inleft", "set x 21;in x 2;in x 3;push;");
        Checks.due("only the lowest bits are shifted in", x.register(0, 2), 0b01_101);
        x = Checks.ran(3, "inleft", "set x 31;in null 2;in x 3;push;");
        Checks.due("only the lowest bits are shifted in", x.register(0, 2), 0b111);
        x = Checks.ran(3, "", "set x 31;in null 2;in x 3;push;");
        Checks.due("only the lowest bits are shifted in", x.register(0, 2), 7 << 29);
        x = Checks.ran(4, "", "mov x not null;in x 31;in null 1;in x 32;");
        Checks.due("I with 32 bits", x.register(0, 2), -1);
        Checks.due("fill goes up to 32", x.fill(0), 32);
        x = Checks.ran(3, "", "mov x not null;in x 31;in null 1;push;");
        Checks.due("I from the left, logical", x.register(0, 2), 0x7FFFFFFF);
        x = Checks.ran(3, "inleft", "mov x not null;in x 31;in null 1;push;");
        Checks.due("I from the right", x.register(0, 2), -2);
        x = Checks.ran(2, "inleft", "mov x not null;in x 32;push;");
        Checks.due("I with 32 bits from the right", x.register(0, 2), -1);
        x = Checks.ran(2, "", "mov isr not null;in isr 4;push;");
        Checks.due("in isr", x.register(0, 2), -1);
        Checks.due("fill after mov isr", x.fill(0), 4);
        x = Checks.ran(3, "", "set y 9;mov osr y;in osr 4;push;");
        Checks.due("in osr", x.register(0, 2), 9 << 28);
        Checks.due("in osr does not spend", x.spent(0), 0);
        x = Checks.loaded("level 2 1;level 15 1;engine 0 start a inpins 14 inleft;a:in pins 32;in pins 16;");
        x.run(1);
        Checks.due("in pins", x.register(0, 2), 0b1_0010);
        x.run(1);
        Checks.due("in pins again", x.register(0, 2), 0x00120012);
    }

    private static void automaticPush() {
        PinEngines x = Checks.engine("autopush 8 inleft", "set x 31;in x 5;in x 5;in x 32;jmp a;");
        x.run(3);
        Checks.due("autopush above the limit", x.queued(0, true, 0), 0b11111_11111);
        Checks.due("queueSize", x.queueSize(0, true), 1);
        Checks.due("I after autopush", x.register(0, 2), 0);
        Checks.due("fill after autopush", x.fill(0), 0);
        Checks.due("count of pushed words", x.count(0, 3), 1);
        x.run(20);
        Checks.due("queueSize", x.queueSize(0, true), 4);
        Checks.due("stall at the full queue", x.stall(0), 3);
        Checks.due("pc", x.pc(0), 2);
        Checks.due("I is not shifted", x.register(0, 2), 31);
        Checks.due("fill does not grow", x.fill(0), 5);
        Checks.due("count of pushed words", x.count(0, 3), 4);
        Checks.due("take", x.take(0), 0b11111_11111);
        Checks.due("run goes on", x.run(1), 1);
        Checks.due("stall", x.stall(0), 0);
        Checks.due("queueSize", x.queueSize(0, true), 4);

        PinEngines below = Checks.ran(2, "autopush 8", "in x 7;push;");
        Checks.due("below the limit nothing is pushed", below.queueSize(0, true), 1);
        Checks.due("and so push does it", below.count(0, 3), 1);
        PinEngines without = Checks.ran(3, "", "mov x not null;in x 32;in x 32;push;");
        Checks.due("without autopush nothing is pushed", without.queueSize(0, true), 0);
        Checks.due("fill without autopush", without.fill(0), 32);
        PinEngines full = Checks.ran(1, "autopush 32", "in x 32;");
        Checks.due("autopush 32", full.queueSize(0, true), 1);
        PinEngines none = Checks.ran(3, "autopush 8 joinin", "in x 7;in x 1;");
        Checks.due("a joined input has no output queue", none.stall(0), 3);
        Checks.due("its fill", none.fill(0), 7);
    }

    private static void shiftsOut() {
        PinEngines x = Checks.engine("", "pull;out x 4;out y 8;out null 3;out x 32;");
        x.put(0, 0xABCDE123);
        x.run(2);
        Checks.due("out to the right", x.register(0, 0), 3);
        Checks.due("O", x.register(0, 3), 0x0ABCDE12);
        Checks.due("spent", x.spent(0), 4);
        x.run(1);
        Checks.due("out to the right", x.register(0, 1), 0x12);
        x.run(1);
        Checks.due("O", x.register(0, 3), 0xABCDE >>> 3);
        Checks.due("spent", x.spent(0), 15);
        x.run(1);
        Checks.due("out with 32 bits", x.register(0, 0), 0xABCDE >>> 3);
        Checks.due("O", x.register(0, 3), 0);
        Checks.due("spent goes up to 32", x.spent(0), 32);

        PinEngines y = Checks.engine("outleft", "pull;out x 4;out y 8;out x 32;");
        y.put(0, 0xABCDE123);
        y.run(2);
        Checks.due("out to the left", y.register(0, 0), 0xA);
        Checks.due("O", y.register(0, 3), 0xBCDE1230);
        y.run(1);
        Checks.due("out to the left", y.register(0, 1), 0xBC);
        y.run(1);
        Checks.due("out with 32 bits", y.register(0, 0), 0xDE123000);
        Checks.due("O", y.register(0, 3), 0);
    }

    private static void outTargets() {
        PinEngines x = Checks.engine("outpins 14 4", "pull;out pins 3;out dirs 9;out isr 5;out pc 6;push;push;");
        x.put(0, 0b10001_10110_000001001_101);
        x.run(2);
        Checks.due("out pins", Checks.latches(x), 0x4001);
        Checks.due("out pins keeps the directions", Checks.outputs(x), 0);
        x.run(1);
        Checks.due("out dirs", Checks.outputs(x), 0x4002);
        Checks.due("out dirs keeps the output bits", Checks.latches(x), 0x4001);
        x.run(1);
        Checks.due("out isr", x.register(0, 2), 0b10110);
        Checks.due("out isr sets the fill count", x.fill(0), 5);
        x.run(1);
        Checks.due("out pc is modulo the number of instructions", x.pc(0), 0b010001 % 7);

        PinEngines y = Checks.engine("", "mov osr not null;out pc 32;push;push;push;push;push;");
        y.run(2);
        Checks.due("out pc with an unsigned word", y.pc(0), 4294967295L % 7);
        PinEngines none = Checks.ran(2, "", "mov osr not null;out pins 32;");
        Checks.due("out pins without a group", Checks.latches(none), 0);
        PinEngines zeros = Checks.engine("outpins 0 16", "mov pins not null;mov osr not null;out pins 3;");
        zeros.run(3);
        Checks.due("out pins with few bits writes the whole group", Checks.latches(zeros), 7);
        PinEngines filled = Checks.ran(2, "autopush 4", "mov osr not null;out isr 32;push;");
        Checks.due("out isr does not push", filled.queueSize(0, true), 0);
        Checks.due("out isr with 32 bits", filled.fill(0), 32);
    }

    private static void automaticPull() {
        PinEngines x = Checks.engine("autopull 8", "out x 4;out x 8;jmp a;");
        Checks.due("run with an empty queue", x.run(2), 0);
        Checks.due("stall", x.stall(0), 2);
        Checks.due("spent", x.spent(0), 32);
        x.put(0, 0x1234);
        x.put(0, 0x5678);
        x.run(1);
        Checks.due("out after the refill", x.register(0, 0), 4);
        Checks.due("spent", x.spent(0), 4);
        Checks.due("count of pulled words", x.count(0, 4), 1);
        x.run(1);
        Checks.due("below the limit O is not refilled", x.register(0, 0), 0x23);
        Checks.due("spent", x.spent(0), 12);
        x.run(2);
        Checks.due("above the limit O is refilled", x.register(0, 0), 8);
        Checks.due("count of pulled words", x.count(0, 4), 2);
        x.run(2);
        x.run(1);
        Checks.due("stall at the empty queue", x.stall(0), 2);
        Checks.due("O is not shifted", x.register(0, 3), 5);
        Checks.due("spent", x.spent(0), 12);

        PinEngines at = Checks.engine("autopull 8", "out x 8;out x 8;jmp a;");
        at.put(0, 0x1234);
        at.put(0, 0x5678);
        at.run(2);
        Checks.due("at the limit O is refilled", at.register(0, 0), 0x78);
        Checks.due("count of pulled words", at.count(0, 4), 2);
        PinEngines last = Checks.engine("autopull 32", "out x 31;out x 1;out x 4;jmp a;");
        last.put(0, -1);
        last.put(0, 6);
        last.run(2);
        Checks.due("below 32 O is not refilled", last.count(0, 4), 1);
        last.run(1);
        Checks.due("at 32 O is refilled", last.register(0, 0), 6);
        PinEngines without = Checks.ran(1, "", "out x 4;push;");
        Checks.due("without autopull nothing is refilled", without.pc(0), 1);
        PinEngines none = Checks.engine("autopull 8 joinout", "out x 4;");
        Checks.due("put", none.put(0, 4), -2);
        none.run(2);
        Checks.due("a joined output has no input queue", none.stall(0), 2);
    }

    private static void pushes() {
        PinEngines x = Checks.engine("", "set x 9;in x 32;push;jmp a;");
        x.run(3);
        Checks.due("push", x.queued(0, true, 0), 9);
        Checks.due("I after push", x.register(0, 2), 0);
        Checks.due("fill after push", x.fill(0), 0);
        x.run(12);
        x.run(6);
        Checks.due("stall", x.stall(0), 3);
        Checks.due("I stays", x.register(0, 2), 9);
        Checks.due("fill stays", x.fill(0), 32);
        Checks.due("queueSize", x.queueSize(0, true), 4);

        PinEngines joined = Checks.engine("joinout", "push;");
        joined.run(20);
        Checks.due("queueSize of a joined output", joined.queueSize(0, true), 8);
        Checks.due("stall", joined.stall(0), 3);
        Checks.due("count of pushed words", joined.count(0, 3), 8);
        Checks.due("count of stalls", joined.count(0, 1), 12);

        PinEngines lost = Checks.engine("joinin", "set x 9;in x 5;push noblock;jmp a;");
        lost.run(3);
        Checks.due("push noblock", lost.queueSize(0, true), 0);
        Checks.due("I", lost.register(0, 2), 0);
        Checks.due("fill", lost.fill(0), 0);
        Checks.due("count of lost words", lost.count(0, 5), 1);
        Checks.due("count of pushed words", lost.count(0, 3), 0);
        PinEngines room = Checks.ran(1, "", "push noblock;");
        Checks.due("push noblock with room", room.queueSize(0, true), 1);
        Checks.due("count of lost words", room.count(0, 5), 0);

        PinEngines below = Checks.ran(2, "autopush 6", "in x 5;push iffull;push;");
        Checks.due("push iffull below the limit", below.queueSize(0, true), 0);
        Checks.due("fill", below.fill(0), 5);
        PinEngines at = Checks.ran(2, "", "mov osr not null;out isr 32;push iffull;");
        at.run(1);
        Checks.due("push iffull at the limit 32", at.queued(0, true, 0), 0xFFFFFFFFL);
        PinEngines under = Checks.ran(3, "", "mov osr not null;out isr 31;push iffull;push;");
        Checks.due("push iffull below the limit 32", under.queueSize(0, true), 0);
        PinEngines full = Checks.ran(3, "joinin", "mov osr not null;out isr 31;push iffull noblock;push;");
        Checks.due("push iffull below the limit loses nothing", full.count(0, 5), 0);
        Checks.due("fill", full.fill(0), 31);
        PinEngines stays = Checks.ran(3, "joinin", "mov osr not null;out isr 31;push iffull;push;");
        Checks.due("push iffull below the limit does not stall", stays.pc(0), 3);
        PinEngines stalls = Checks.ran(3, "joinin", "mov osr not null;out isr 32;push iffull;push;");
        Checks.due("push iffull at the limit stalls", stalls.stall(0), 3);
        PinEngines loses = Checks.ran(3, "joinin", "mov osr not null;out isr 32;push iffull noblock;push;");
        Checks.due("push iffull noblock at the limit", loses.count(0, 5), 1);
    }

    private static void pulls() {
        PinEngines x = Checks.engine("", "set x 7;pull;pull noblock;pull noblock;pull;");
        x.put(0, 0x80000001);
        x.put(0, 5);
        x.run(2);
        Checks.due("pull", x.register(0, 3), 0x80000001);
        Checks.due("spent", x.spent(0), 0);
        Checks.due("queueSize", x.queueSize(0, false), 1);
        x.run(1);
        Checks.due("pull noblock with a word", x.register(0, 3), 5);
        Checks.due("count of pulled words", x.count(0, 4), 2);
        x.run(1);
        Checks.due("pull noblock without a word", x.register(0, 3), 7);
        Checks.due("count of pulled words", x.count(0, 4), 2);
        x.run(1);
        Checks.due("stall", x.stall(0), 2);

        PinEngines spent = Checks.ran(3, "", "set x 7;pull ifempty noblock;out null 9;");
        Checks.due("pull ifempty noblock at first", spent.register(0, 3), 7 >> 9);
        Checks.due("spent", spent.spent(0), 9);
        PinEngines below = Checks.engine("autopull 9", "mov osr not null;out null 8;pull ifempty;push;");
        below.put(0, 3);
        below.run(3);
        Checks.due("pull ifempty below the limit", below.register(0, 3), 0xFFFFFF);
        Checks.due("pc", below.pc(0), 3);
        Checks.due("queueSize", below.queueSize(0, false), 1);
        PinEngines at = Checks.engine("autopull 8", "mov osr not null;out null 8;pull ifempty;push;");
        at.put(0, 3);
        at.run(3);
        Checks.due("pull ifempty at the limit", at.register(0, 3), 3);
        PinEngines stalls = Checks.ran(3, "", "mov osr not null;out null 32;pull ifempty;push;");
        Checks.due("pull ifempty at the limit stalls", stalls.stall(0), 2);
        PinEngines idle = Checks.ran(3, "", "mov osr not null;out null 31;pull ifempty;push;");
        Checks.due("pull ifempty below the limit does not stall", idle.pc(0), 3);
        Checks.due("spent", idle.spent(0), 31);
    }

    private static void moves() {
        PinEngines x = Checks.ran(3, "", "set x 19;mov y x;mov x not y;push;");
        Checks.due("mov y x", x.register(0, 1), 19);
        Checks.due("mov x not y", x.register(0, 0), ~19);
        x = Checks.ran(2, "", "set x 19;mov y reverse x;push;");
        Checks.due("mov y reverse x", x.register(0, 1), 0b11001 << 27);
        x = Checks.ran(4, "", "set x 3;in x 5;mov isr x;mov isr isr;push;");
        Checks.due("mov isr", x.register(0, 2), 3);
        Checks.due("mov isr clears the fill count", x.fill(0), 0);
        x = Checks.ran(2, "", "set x 3;mov osr x;push;");
        Checks.due("mov osr", x.register(0, 3), 3);
        Checks.due("mov osr clears the spent count", x.spent(0), 0);
        x = Checks.ran(1, "", "mov pc not null;push;push;");
        Checks.due("mov pc", x.pc(0), 4294967295L % 3);
        x = Checks.ran(2, "", "set x 2;mov pc x;push;push;");
        Checks.due("mov pc", x.pc(0), 2);
        x = Checks.engine("", "mov x status;mov y not status;push;");
        x.run(2);
        Checks.due("status of an empty queue", x.register(0, 0), -1);
        Checks.due("not status of an empty queue", x.register(0, 1), 0);
        x = Checks.engine("", "mov x status;mov y not status;push;");
        x.put(0, 9);
        x.run(2);
        Checks.due("status of a queue with a word", x.register(0, 0), 0);
        Checks.due("not status of a queue with a word", x.register(0, 1), -1);
        x = Checks.loaded("level 3 1;level 9 1;engine 0 start a inpins 3 outpins 15 3;a:mov x pins;mov y not pins;"
                + "mov pins pins;mov pins not null;mov pins null;");
        x.run(2);
        Checks.due("mov x pins", x.register(0, 0), 0b1000001);
        Checks.due("mov y not pins", x.register(0, 1), ~0b1000001);
        x.run(1);
        Checks.due("mov pins pins", Checks.latches(x), 0x8000);
        x.run(1);
        Checks.due("mov pins not null", Checks.latches(x), 0x8003);
        x.run(1);
        Checks.due("mov pins null", Checks.latches(x), 0);
    }

    private static void sets() {
        PinEngines x = Checks.engine("setpins 13 5 outpins 4 2", "set dirs 21;set pins 14;set x 31;set y 0;set pins 0;");
        x.run(1);
        Checks.due("set dirs", Checks.outputs(x), 0xA002);
        Checks.due("set dirs keeps the output bits", Checks.latches(x), 0);
        x.run(1);
        Checks.due("set pins", Checks.latches(x), 0xC001);
        Checks.due("set pins keeps the directions", Checks.outputs(x), 0xA002);
        Checks.due("levels", Checks.levels(x), 0x8000);
        x.run(2);
        Checks.due("set x", x.register(0, 0), 31);
        Checks.due("set y", x.register(0, 1), 0);
        x.run(1);
        Checks.due("set pins", Checks.latches(x), 0);
    }

    private static void groups() {
        PinEngines x = Checks.engine("outpins 3 1 setpins 5 1 sidepins 7 1", "mov pins not null side 15;set pins 31;set dirs 2;");
        x.run(1);
        Checks.due("groups of one pin", Checks.latches(x), 0x88);
        x.run(1);
        Checks.due("groups of one pin", Checks.latches(x), 0xA8);
        x.run(1);
        Checks.due("a group takes only its bits", Checks.outputs(x), 0);
        PinEngines two = Checks.loaded("engine 0 start a setpins 0 2 outpins 8 3;engine 1 start b outpins 4 6;"
                + "a:set dirs 3;mov osr not null;out dirs 2;set dirs 1;b:mov osr not null;out dirs 6;out dirs 1;push;");
        int[] dirs = {0x003, 0x3F3, 0x013, 0x011};
        for (int i = 0; i < dirs.length; i++) {
            two.run(1);
            Checks.due("directions of other groups stay, cycle " + i, Checks.outputs(two), dirs[i]);
        }
        PinEngines none = Checks.ran(4, "", "mov pins not null side 15;set pins 31;set dirs 31;out dirs 32;");
        Checks.due("groups of no pin", Checks.latches(none), 0);
        Checks.due("groups of no pin", Checks.outputs(none), 0);
        PinEngines whole = Checks.ran(2, "outpins 9 16", "set x 1;mov pins x;");
        Checks.due("a group of 16 pins", Checks.latches(whole), 1 << 9);
    }

    private static void flags() {
        PinEngines x = Checks.loaded("engine 0 start a;engine 1 start b;engine 2 start c;"
                + "a:raise 1;clear 1;push;b:clear 1;push;push;c:push;wait 1 flag 1;raise 7;");
        x.run(1);
        Checks.due("a flag that is cleared and raised in one cycle", x.flag(1), 1);
        x.run(1);
        Checks.due("a flag that is cleared twice in one cycle", x.flag(1), 0);
        Checks.due("the waiting engine saw it", x.pc(2), 8);
        x.run(1);
        Checks.due("flag", x.flag(7), 1);
        PinEngines y = Checks.loaded("engine 0 start a;engine 1 start b;"
                + "a:raise 3;wait 1 flag 3;push;b:push;raise 3;wait 1 flag 3;push;");
        y.run(2);
        Checks.due("a flag that is waited for and raised in one cycle", y.flag(3), 1);
        y.run(1);
        Checks.due("is there for the next one", y.flag(3), 0);
        Checks.due("pc", y.pc(1), 6);
        PinEngines six = Checks.loaded("engine 0 start a;a:raise 6;raise 5;clear 6;raise 6;push;push;");
        int[] due = {0x40, 0x60, 0x20, 0x60, 0x60, 0x60};
        for (int i = 0; i < due.length; i++) {
            six.run(1);
            Checks.due("flags after cycle " + i, Checks.flags(six), due[i]);
        }
        PinEngines z = Checks.loaded("engine 0 start a;engine 1 start b;a:raise 0;push;b:wait 1 flag 0;push;");
        z.run(1);
        Checks.due("a flag is seen only in the cycle after", z.pc(1), 2);
    }

    private static void signals() {
        PinEngines x = Checks.loaded("engine 0 start a;engine 1 start b;"
                + "a:signal 4;push;b:push;push;push;wait 1 flag 4;push;");
        Checks.due("run", x.run(1), 1);
        Checks.due("flag", x.flag(4), 1);
        Checks.due("stall", x.stall(0), 5);
        Checks.due("count of stalls", x.count(0, 1), 1);
        x.run(3);
        Checks.due("the flag is cleared by the other engine", x.flag(4), 0);
        Checks.due("stall in the cycle of clearing", x.stall(0), 5);
        Checks.due("count of stalls", x.count(0, 1), 4);
        x.run(1);
        Checks.due("stall", x.stall(0), 0);
        Checks.due("pc", x.pc(0), 1);
        Checks.due("the flag is not raised again", x.flag(4), 0);
        PinEngines y = Checks.loaded("engine 0 start a;a:raise 4;signal 4 side 1;clear 4;");
        y.run(10);
        Checks.due("a signal whose flag was raised before", y.stall(0), 5);
        PinEngines z = Checks.loaded("engine 0 start a;engine 1 start b;a:signal 2;push;b:clear 2;push;");
        z.run(1);
        Checks.due("a signal in the cycle of a clear", z.flag(2), 1);
        z.run(1);
        Checks.due("stall", z.stall(0), 5);
    }

    private static void memory() {
        PinEngines x = Checks.engine("", "load x 3;load y x;store x 15;set y 30;store y y;load osr 15;in x 32;store isr 0;"
                + "set x 31;load y x;store isr x;");
        x.poke(3, 0x12345675);
        x.poke(5, -8);
        x.run(1);
        Checks.due("load x", x.register(0, 0), 0x12345675);
        x.run(1);
        Checks.due("load y x", x.register(0, 1), -8);
        x.run(1);
        Checks.due("store x", x.memory(15), 0x12345675);
        x.run(2);
        Checks.due("store y y", x.memory(14), 30);
        x.run(1);
        Checks.due("load osr", x.register(0, 3), 0x12345675);
        Checks.due("load osr clears the spent count", x.spent(0), 0);
        x.run(2);
        Checks.due("store isr", x.memory(0), 0x12345675);
        Checks.due("store isr keeps I", x.register(0, 2), 0x12345675);
        Checks.due("store isr keeps the fill count", x.fill(0), 32);
        x.run(2);
        Checks.due("load y x takes the lowest 4 bits", x.register(0, 1), 0x12345675);
        x.run(1);
        Checks.due("store isr x takes the lowest 4 bits", x.memory(15), 0x12345675);
        PinEngines odd = Checks.engine("", "set x 19;set y 21;store x y;store y x;load osr y;push;");
        odd.run(4);
        Checks.due("store x y", odd.memory(5), 19);
        Checks.due("store y x", odd.memory(3), 21);
        odd.run(1);
        Checks.due("load osr y", odd.register(0, 3), 19);
        PinEngines self = Checks.engine("", "set x 6;load x x;push;");
        self.poke(6, 77);
        self.run(2);
        Checks.due("load x x", self.register(0, 0), 77);
    }

    private static void sideOutputs() {
        PinEngines x = Checks.engine("sidepins 14 4", "push side 10;pull side 5;push side 0;");
        x.run(1);
        Checks.due("side", Checks.latches(x), 0x8002);
        Checks.due("side keeps the directions", Checks.outputs(x), 0);
        x.run(1);
        Checks.due("side at the first try", Checks.latches(x), 0x4001);
        Checks.due("stall", x.stall(0), 2);
        PinEngines y = Checks.loaded("engine 0 start a sidepins 0 2;engine 1 start b setpins 0 2;"
                + "a:wait 1 pin 9 side 3;push side 0;push;b:push;set pins 0;push;push;push;");
        y.run(1);
        Checks.due("side at the first try", Checks.latches(y), 3);
        y.run(1);
        Checks.due("another engine", Checks.latches(y), 0);
        y.run(1);
        Checks.due("no side while it is stalled", Checks.latches(y), 0);
        y.drive(9, 1);
        y.run(1);
        Checks.due("no side when it is done after a stall", Checks.latches(y), 0);
        Checks.due("pc", y.pc(0), 1);

        PinEngines own = Checks.engine("sidepins 0 2 setpins 0 4", "set pins 14 side 1;push;");
        own.run(1);
        Checks.due("side prevails over the instruction", Checks.latches(own), 0b1101);
        PinEngines two = Checks.loaded("engine 0 start a sidepins 0 4;engine 1 start b setpins 1 2;engine 2 start c"
                + " setpins 2 1;a:push side 15;b:set pins 0;c:set pins 1;");
        two.run(1);
        Checks.due("a later engine prevails", Checks.latches(two), 0b1101);
        PinEngines seen = Checks.loaded("engine 0 start a setpins 3 1;engine 1 start b inpins 3;"
                + "a:set dirs 1 side 0;set pins 1;push;b:mov x pins;mov x pins;mov x pins;");
        seen.run(2);
        Checks.due("levels are read before they are written", seen.register(1, 0), 0);
        seen.run(1);
        Checks.due("levels are read in the cycle after", seen.register(1, 0), 1);
    }

    private static void delays() {
        PinEngines x = Checks.engine("", "set x 1 delay 2;pull delay 31;set x 2;");
        int[] done = {1, 0, 0, 0, 0};
        int[] left = {2, 1, 0, 0, 0};
        for (int i = 0; i < done.length; i++) {
            Checks.due("run in cycle " + i, x.run(1), done[i]);
            Checks.due("delayLeft after cycle " + i, x.delayLeft(0), left[i]);
            Checks.due("pc after cycle " + i, x.pc(0), 1);
        }
        Checks.due("stall", x.stall(0), 2);
        Checks.due("a stall has no delay", x.delayLeft(0), 0);
        Checks.due("count of stalls", x.count(0, 1), 2);
        Checks.due("count of delays", x.count(0, 2), 2);
        x.put(0, 1);
        Checks.due("run", x.run(1), 1);
        Checks.due("delayLeft after the stall", x.delayLeft(0), 31);
        Checks.due("run", x.run(31), 0);
        Checks.due("delayLeft", x.delayLeft(0), 0);
        Checks.due("run", x.run(1), 1);
        Checks.due("register", x.register(0, 0), 2);
        PinEngines jump = Checks.engine("", "jmp a delay 3;");
        Checks.due("a jump with a delay", jump.run(9), 3);
        PinEngines none = Checks.engine("", "jmp a delay 0;");
        Checks.due("a delay of 0", none.run(9), 9);
    }

    private static void addresses() {
        PinEngines x = Checks.ran(3, "", "set x 1;set y 2;set x 3;");
        Checks.due("0 comes after the last instruction", x.pc(0), 0);
        x = Checks.loaded("engine 0 start c wrap b c;engine 1 start a wrap c a;"
                + "a:set x 1;b:set x 2;c:set x 3;set x 4;");
        x.run(1);
        Checks.due("the bottom comes after the top", x.pc(0), 1);
        Checks.due("a bottom above the top", x.pc(1), 2);
        x.run(1);
        Checks.due("pc", x.pc(0), 2);
        Checks.due("pc", x.pc(1), 3);
        x.run(1);
        Checks.due("pc", x.pc(0), 1);
        Checks.due("pc", x.pc(1), 0);
        x = Checks.loaded("engine 0 start b wrap a b;a:push;b:jmp xzero c;c:push;d:push;");
        x.run(1);
        Checks.due("a jump at the top jumps", x.pc(0), 2);
        x = Checks.loaded("engine 0 start b wrap a b;a:push;b:jmp differ c;c:push;d:push;");
        x.run(1);
        Checks.due("a jump at the top that does not jump", x.pc(0), 0);
        x = Checks.loaded("engine 0 start b wrap a b;engine 1 start b;a:push;b:mov pc y;c:push;");
        x.run(1);
        Checks.due("a mov pc at the top", x.pc(0), 0);
        x = Checks.loaded("engine 0 start a wrap b b;a:push noblock;b:push noblock;c:push noblock;");
        x.run(9);
        Checks.due("a wrap of one instruction", x.pc(0), 1);
        x = Checks.ran(4, "", "jmp a;");
        Checks.due("a program of one instruction", x.pc(0), 0);
    }
}
