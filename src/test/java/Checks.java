import java.util.NoSuchElementException;

/** What the tests share: comparing answers, feeding texts, ending with the exit code. */
final class Checks {
    /** A call whose exception is of interest. */
    interface Call {
        void make();
    }

    private static String subject = "";
    private static int checked = 0;
    private static int wrong = 0;

    private Checks() {
    }

    static void due(String call, long got, long want) {
        checked++;
        if (got != want) {
            report(call + " answered " + got + ", due is " + want);
        }
    }

    static void due(String call, boolean got, boolean want) {
        due(call, got ? 1 : 0, want ? 1 : 0);
    }

    static void due(String call, String got, String want) {
        checked++;
        if (!got.equals(want)) {
            report(call + " answered '" + got + "', due is '" + want + "'");
        }
    }

    static void noSuchElement(String call, Call made) {
        checked++;
        String thrown = thrownBy(made);
        if (!thrown.equals(NoSuchElementException.class.getName())) {
            report(call + " threw " + thrown + ", due is NoSuchElementException");
        }
    }

    static void illegalArgument(String call, Call made) {
        checked++;
        String thrown = thrownBy(made);
        if (!thrown.equals(IllegalArgumentException.class.getName())) {
            report(call + " threw " + thrown + ", due is IllegalArgumentException");
        }
    }

    static void nothingThrown(String call, Call made) {
        due(call + " threw", thrownBy(made), "nothing");
    }

    /** The name of the exception's class, since a subclass of it is not what the document names. */
    private static String thrownBy(Call made) {
        try {
            made.make();
        } catch (RuntimeException e) {
            return e.getClass().getName();
        }
        return "nothing";
    }

    private static void report(String text) {
        wrong++;
        if (wrong <= 50) {
            System.out.println(subject + text);
        }
    }

    /** What the next checks are about, to be told with every wrong answer. */
    static void about(String newSubject) {
        subject = newSubject;
    }

    static int checked() {
        return checked;
    }

    static void finish(String test) {
        System.out.println(test + ": " + checked + " answers checked, " + wrong + " not as due");
        if (wrong != 0) {
            System.exit(1);
        }
    }

    /** Feeds a text, a byte a character, and spaces up to the next 20 bytes; returns its length. */
    static int feed(PinEngines engines, String text) {
        for (int i = 0; i < text.length(); i += 20) {
            engines.feed(word(text, i), word(text, i + 4), word(text, i + 8), word(text, i + 12),
                    word(text, i + 16));
        }
        return text.length();
    }

    private static int word(String text, int from) {
        int word = 0;
        for (int i = from; i < from + 4; i++) {
            word = word << 8 | (i < text.length() ? text.charAt(i) : ' ');
        }
        return word;
    }

    static int load(PinEngines engines, String text) {
        return engines.load(feed(engines, text));
    }

    static int query(PinEngines engines, String text) {
        return engines.query(feed(engines, text));
    }

    /** A new object with this program, which must have no error. */
    static PinEngines loaded(String text) {
        PinEngines engines = new PinEngines();
        int count = load(engines, text);
        checked++;
        if (count < 0) {
            report("load of '" + text + "' answered " + count + " at " + engines.errorPosition());
        }
        return engines;
    }

    /** One engine, number 0, that starts at the first of these instructions, a, and has these settings. */
    static PinEngines engine(String settings, String instructions) {
        return loaded("engine 0 start a " + settings + ";a:" + instructions);
    }

    static PinEngines ran(int cycles, String settings, String instructions) {
        PinEngines engines = engine(settings, instructions);
        engines.run(cycles);
        return engines;
    }

    static String format(PinEngines engines, int address) {
        int length = engines.format(address);
        StringBuilder text = new StringBuilder();
        for (int i = 0; i < length; i++) {
            text.append((char) engines.formattedByte(i));
        }
        return text.toString();
    }

    /** The levels of all pins as a mask. */
    static int levels(PinEngines engines) {
        int levels = 0;
        for (int pin = 0; pin < 16; pin++) {
            levels |= engines.level(pin) << pin;
        }
        return levels;
    }

    static int latches(PinEngines engines) {
        int latches = 0;
        for (int pin = 0; pin < 16; pin++) {
            latches |= engines.latch(pin) << pin;
        }
        return latches;
    }

    static int outputs(PinEngines engines) {
        int outputs = 0;
        for (int pin = 0; pin < 16; pin++) {
            outputs |= engines.isOutput(pin) ? 1 << pin : 0;
        }
        return outputs;
    }

    static int flags(PinEngines engines) {
        int flags = 0;
        for (int flag = 0; flag < 8; flag++) {
            flags |= engines.flag(flag) << flag;
        }
        return flags;
    }

    /** All that the object tells of its state, so that two states can be compared. */
    static String state(PinEngines x) {
        StringBuilder s = new StringBuilder();
        s.append(x.clock()).append(' ').append(levels(x)).append(' ').append(latches(x)).append(' ')
                .append(outputs(x)).append(' ').append(flags(x)).append(' ').append(x.portOwner());
        for (int i = 0; i < 16; i++) {
            s.append(' ').append(x.memory(i)).append(' ').append(x.edges(i)).append(' ').append(x.highTime(i));
            for (int age = 0; age < 64; age++) {
                s.append(',').append(x.levelAt(i, age));
            }
        }
        for (int e = 0; e < 4; e++) {
            if ((x.engines() >> e & 1) == 1) {
                s.append('\n').append(x.pc(e)).append(' ').append(x.fill(e)).append(' ').append(x.spent(e)).append(' ')
                        .append(x.delayLeft(e)).append(' ').append(x.stall(e)).append(' ').append(x.isEnabled(e));
                for (int i = 0; i < 4; i++) {
                    s.append(' ').append(x.register(e, i));
                }
                for (int i = 0; i < 6; i++) {
                    s.append(' ').append(x.count(e, i));
                }
                for (int i = 0; i < 9; i++) {
                    s.append(' ').append(x.queued(e, false, i)).append(' ').append(x.queued(e, true, i));
                }
            }
        }
        return s.toString();
    }

    /** The state as it is now, told by so few calls that an object stays below its 512 calls. */
    static String brief(PinEngines x) {
        StringBuilder s = new StringBuilder();
        s.append(x.clock()).append(' ').append(x.instructionCount()).append(' ').append(x.portOwner()).append(' ')
                .append(x.undoCount()).append(' ').append(x.errorPosition()).append(' ').append(flags(x));
        for (int i = 0; i < 16; i++) {
            s.append('\n').append(x.level(i)).append(x.latch(i)).append(x.isOutput(i)).append(' ').append(x.edges(i))
                    .append(' ').append(x.highTime(i)).append(' ').append(x.levelAt(i, 0)).append(' ').append(x.memory(i));
        }
        for (int e = 0; e < 4; e++) {
            if ((x.engines() >> e & 1) == 1) {
                s.append('\n').append(engineState(x, e));
            }
        }
        return s.toString();
    }

    private static String engineState(PinEngines x, int e) {
        StringBuilder s = new StringBuilder();
        s.append(x.pc(e)).append(' ').append(x.fill(e)).append(' ').append(x.spent(e)).append(' ').append(x.delayLeft(e))
                .append(' ').append(x.stall(e)).append(' ').append(x.isEnabled(e));
        for (int which = 0; which < 4; which++) {
            s.append(' ').append(x.register(e, which));
        }
        for (int what = 0; what < 6; what++) {
            s.append(' ').append(x.count(e, what));
        }
        return s.append(' ').append(words(x, e, false)).append(words(x, e, true)).toString();
    }

    /** The words of a queue. */
    static String words(PinEngines x, int engine, boolean output) {
        StringBuilder s = new StringBuilder("[");
        for (int i = 0; i < x.queueSize(engine, output); i++) {
            s.append(i == 0 ? "" : " ").append(x.queued(engine, output, i));
        }
        return s.append(']').toString();
    }
}
