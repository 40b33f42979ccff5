import java.util.NoSuchElementException;
import java.util.Random;

/** Random arguments and texts for every method: nothing is thrown but what its signature names. */
public final class WrongArgumentTest {
    private static final String PROGRAM = "level 1 1;engine 0 start a clock 1 9 setpins 14 5 sidepins 3 4 wrap b c;"
            + "engine 2 start c outpins 9 16 autopull 7 autopush 9 joinout inleft outleft;engine 3 start b joinin;"
            + "a:mov pc not x side 9;in osr 17;out pc 31;b:load x y;store isr x;jmp ydec a;out dirs 32 side 3;"
            + "c:push noblock;pull noblock;mov osr reverse isr;out isr 9;signal 7;wait 1 flag 7;mov pins not status;";
    private static final int[] EDGES = {Integer.MIN_VALUE, -1000001, -2, -1, 0, 1, 2, 3, 4, 5, 6, 7, 8, 9, 15, 16, 17,
        31, 32, 33, 63, 64, 65, 199, 200, 201, 999, 1000, 1001, 1999, 2000, 2001, 999999, 1000000, 1000001,
        Integer.MAX_VALUE};
    private static final int METHODS = 41;

    private static Random random = new Random(1);

    public static void main(String[] args) {
        for (int seed = 0; seed < 300; seed++) {
            random = new Random(seed);
            PinEngines x = seed % 10 == 0 ? new PinEngines() : Checks.loaded(PROGRAM);
            for (int i = 0; i < 400; i++) {
                call(x, random.nextInt(METHODS));
            }
        }
        Checks.finish("WrongArgumentTest");
    }

    private static int any() {
        return random.nextInt(8) == 0 ? random.nextInt() : EDGES[random.nextInt(EDGES.length)];
    }

    private static int small() {
        return random.nextInt(4) == 0 ? any() : random.nextInt(5);
    }

    /** 1: NoSuchElementException is named in the signature, 2: IllegalArgumentException. */
    private static void call(PinEngines x, int method) {
        int allowed = 0;
        String thrown = "nothing";
        try {
            allowed = method < 5 ? 0 : method < 26 ? 1 : method < 31 ? 3 : method < 35 ? 2 : method < 37 ? 1 : 0;
            if (method < 5) {
                texts(x, method);
            } else if (method < 26) {
                elements(x, method);
            } else {
                others(x, method);
            }
        } catch (NoSuchElementException e) {
            thrown = (allowed & 1) != 0 ? "nothing" : e.toString();
        } catch (IllegalArgumentException e) {
            boolean named = e.getClass() == IllegalArgumentException.class && (allowed & 2) != 0;
            thrown = named ? "nothing" : e.toString();
        } catch (RuntimeException | StackOverflowError e) {
            thrown = e.toString();
        }
        Checks.due("method " + method + " throws", thrown, "nothing");
    }

    private static void texts(PinEngines x, int method) {
        StringBuilder text = new StringBuilder(random.nextInt(3) == 0 ? PROGRAM : "many not (x = y or 1 < pc) ");
        for (int i = random.nextInt(4); i >= 0; i--) {
            text.setCharAt(random.nextInt(text.length()), (char) random.nextInt(256));
        }
        if (random.nextInt(4) == 0) {
            text.append("not ".repeat(random.nextInt(200)));
        }
        int length = text.length() > 1000 ? 1000 : text.length();
        if (method < 3) {
            x.feed(any(), any(), any(), any(), any());
        }
        Checks.feed(x, text.substring(0, length));
        try {
            if (method % 2 == 0) {
                x.query(random.nextInt(4) == 0 ? any() : Math.min(length, 200));
            } else {
                x.load(random.nextInt(4) == 0 ? any() : length);
            }
        } catch (IllegalArgumentException e) {
            Checks.due("load and query throw it", e.getClass() == IllegalArgumentException.class, true);
        }
        if (random.nextInt(2) == 0) {
            x.load(0);
            Checks.load(x, PROGRAM);
        }
    }

    private static void elements(PinEngines x, int method) {
        boolean way = random.nextBoolean();
        switch (method) {
            case 5: x.level(any()); break;
            case 6: x.latch(any()); break;
            case 7: x.isOutput(any()); break;
            case 8: x.flag(any()); break;
            case 9: x.memory(any()); break;
            case 10: x.pc(small()); break;
            case 11: x.register(small(), small()); break;
            case 12: x.fill(small()); break;
            case 13: x.spent(small()); break;
            case 14: x.delayLeft(small()); break;
            case 15: x.stall(small()); break;
            case 16: x.isEnabled(small()); break;
            case 17: x.queueSize(small(), way); break;
            case 18: x.queued(small(), way, any()); break;
            case 19: x.count(small(), small()); break;
            case 20: x.levelAt(any(), any()); break;
            case 21: x.edges(any()); break;
            case 22: x.highTime(any()); break;
            case 23: x.put(small(), any()); break;
            case 24: x.take(small()); break;
            default: x.enable(small(), way); break;
        }
    }

    private static void others(PinEngines x, int method) {
        switch (method) {
            case 26: x.drive(any(), small()); break;
            case 27: x.schedule(any(), small(), small() & 3); break;
            case 28: x.cyclesUntil(small(), small(), any()); break;
            case 29: x.cyclesTo(small(), small(), any()); break;
            case 30: x.period(small(), any()); break;
            case 31: x.run(random.nextInt(4) == 0 ? any() : random.nextInt(40)); break;
            case 32: x.stuck(any()); break;
            case 33: x.divider(any(), any()); break;
            case 34: x.divider(1 + random.nextInt(1000000), 1 + random.nextInt(1000000)); break;
            case 35: x.restart(small()); break;
            case 36: x.format(any()); break;
            case 37: x.formattedByte(any()); break;
            case 38: x.undo(); break;
            case 39: x.saveSnapshot(); break;
            default: x.restoreSnapshot(); break;
        }
        x.poke(3, any());
        x.errorPosition();
        x.portOwner();
        x.undoCount();
    }
}
