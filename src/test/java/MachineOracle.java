import java.util.ArrayList;
import java.util.Arrays;
import java.util.HashMap;
import java.util.LinkedHashMap;
import java.util.List;
import java.util.Map;

/**
 * A second machine, written from the document alone and as plainly as possible: pins are rows, words
 * are shifted bit by bit, instructions are read from their tokens at every try, and what is written
 * in a cycle is collected before it takes effect. It takes texts without errors only.
 */
final class MachineOracle {
    /** An engine: its settings by their names, and its state. */
    private static final class Core {
        Map<String, List<String>> settings = new HashMap<>();
        int start;
        int pc;
        int x;
        int y;
        int in;
        int out;
        int fill;
        int spent = 32;
        int delay;
        int stall;
        int counter;
        boolean enabled = true;
        List<Integer> inputs = new ArrayList<>();
        List<Integer> outputs = new ArrayList<>();
        int[] counts = new int[6];

        Core copy() {
            Core copy = new Core();
            copy.settings = settings;
            copy.start = start;
            copy.pc = pc;
            copy.x = x;
            copy.y = y;
            copy.in = in;
            copy.out = out;
            copy.fill = fill;
            copy.spent = spent;
            copy.delay = delay;
            copy.stall = stall;
            copy.counter = counter;
            copy.enabled = enabled;
            copy.inputs = new ArrayList<>(inputs);
            copy.outputs = new ArrayList<>(outputs);
            copy.counts = counts.clone();
            return copy;
        }

        void asAtFirst() {
            pc = start;
            x = y = in = out = fill = delay = stall = 0;
            spent = 32;
            counter = period() - 256;
            inputs.clear();
            outputs.clear();
        }

        int setting(String name, int index, int otherwise) {
            return settings.containsKey(name) ? Integer.parseInt(settings.get(name).get(index)) : otherwise;
        }

        int period() {
            return 256 * setting("clock", 0, 1) + setting("clock", 1, 0);
        }

        int inputRoom() {
            return settings.containsKey("joinin") ? 8 : settings.containsKey("joinout") ? 0 : 4;
        }
    }

    private List<List<String>> program = new ArrayList<>();
    private List<Integer> sides = new ArrayList<>();
    private List<Integer> delays = new ArrayList<>();
    private Map<String, Integer> labels = new HashMap<>();
    Map<Integer, Core> cores = new LinkedHashMap<>();
    int clock = 0;
    private int[] latches = new int[16];
    private int[] directions = new int[16];
    private int[] outside = new int[16];
    private int[] flags = new int[8];
    private int[] memory = new int[16];
    private int owner = -1;
    List<int[]> scheduled = new ArrayList<>();
    /** The levels at first, then those at the end of each cycle. */
    private List<int[]> past = new ArrayList<>();
    // What a cycle writes.
    private List<int[]> pinWrites = new ArrayList<>();
    private List<Integer> raised = new ArrayList<>();
    private List<Integer> cleared = new ArrayList<>();
    private int[] seen = new int[16];
    private int[] seenFlags = new int[8];
    private Integer newPc;

    MachineOracle(String text) {
        List<List<String>> clauses = new ArrayList<>();
        clauses.add(new ArrayList<>());
        for (GrammarOracle.Token token : GrammarOracle.tokens(text)) {
            if (token.text().equals(";")) {
                clauses.add(new ArrayList<>());
            } else {
                clauses.get(clauses.size() - 1).add(token.text());
            }
        }
        for (List<String> clause : clauses) {
            if (clause.size() > 1 && clause.get(1).equals(":")) {
                labels.put(clause.get(0), program.size());
                clause = clause.subList(2, clause.size());
            }
            readClause(clause);
        }
        for (int e = 0; e < 4; e++) {
            if (cores.containsKey(e)) {
                Core core = cores.get(e);
                core.start = labels.get(core.settings.get("start").get(0));
                core.asAtFirst();
            }
        }
        past.add(levels());
    }

    private MachineOracle() {
    }

    private void readClause(List<String> clause) {
        String first = clause.get(0);
        if (first.equals("level")) {
            outside[Integer.parseInt(clause.get(1))] = Integer.parseInt(clause.get(2));
        } else if (first.equals("engine")) {
            Core core = new Core();
            cores.put(Integer.parseInt(clause.get(1)), core);
            for (int i = 2; i < clause.size();) {
                String setting = clause.get(i);
                int operands = "clock wrap outpins setpins sidepins".contains(setting) ? 2
                        : setting.startsWith("join") || setting.endsWith("left") ? 0 : 1;
                if (setting.startsWith("join")) {
                    core.settings.remove("joinin");
                    core.settings.remove("joinout");
                }
                core.settings.put(setting, clause.subList(i + 1, i + 1 + operands));
                i += 1 + operands;
            }
        } else if (!first.isEmpty()) {
            int side = clause.indexOf("side");
            int delay = clause.indexOf("delay");
            sides.add(side < 0 ? -1 : Integer.parseInt(clause.get(side + 1)));
            delays.add(delay < 0 ? 0 : Integer.parseInt(clause.get(delay + 1)));
            program.add(clause.subList(0, side >= 0 ? side : delay >= 0 ? delay : clause.size()));
        }
    }

    MachineOracle copy() {
        MachineOracle copy = new MachineOracle();
        copy.program = program;
        copy.sides = sides;
        copy.delays = delays;
        copy.labels = labels;
        for (int e : cores.keySet()) {
            copy.cores.put(e, cores.get(e).copy());
        }
        copy.clock = clock;
        copy.latches = latches.clone();
        copy.directions = directions.clone();
        copy.outside = outside.clone();
        copy.flags = flags.clone();
        copy.memory = memory.clone();
        copy.owner = owner;
        copy.scheduled = new ArrayList<>(scheduled);
        copy.past = new ArrayList<>(past);
        return copy;
    }

    int instructions() {
        return program.size();
    }

    int engineMask() {
        int mask = 0;
        for (int e : cores.keySet()) {
            mask |= 1 << e;
        }
        return mask;
    }

    int[] levels() {
        int[] levels = new int[16];
        for (int pin = 0; pin < 16; pin++) {
            levels[pin] = directions[pin] == 1 ? latches[pin] : outside[pin];
        }
        return levels;
    }

    String format(int address) {
        List<String> words = new ArrayList<>();
        for (String word : program.get(address)) {
            boolean number = Character.isDigit(word.charAt(0));
            words.add(number ? "" + Integer.parseInt(word) : labels.containsKey(word) ? "" + labels.get(word) : word);
        }
        String text = String.join(" ", words);
        if (sides.get(address) >= 0) {
            text += " side " + sides.get(address);
        }
        return delays.get(address) == 0 ? text : text + " delay " + delays.get(address);
    }

    // The operations; the caller sees to wrong arguments.

    int put(int e, int word) {
        Core core = cores.get(e);
        if (core.inputs.size() >= core.inputRoom()) {
            return -2;
        }
        core.inputs.add(word);
        return core.inputs.size();
    }

    long take(int e) {
        Core core = cores.get(e);
        return core.outputs.isEmpty() ? -2 : Integer.toUnsignedLong(core.outputs.remove(0));
    }

    boolean enable(int e, boolean on) {
        boolean before = cores.get(e).enabled;
        cores.get(e).enabled = on;
        return before;
    }

    int restart(int e) {
        int before = cores.get(e).pc;
        cores.get(e).asAtFirst();
        return before;
    }

    int drive(int pin, int level) {
        outside[pin] = level;
        return levels()[pin];
    }

    int schedule(int cycle, int pin, int level) {
        if (scheduled.size() == 32) {
            return -2;
        }
        scheduled.add(new int[] {cycle, pin, level});
        return scheduled.size();
    }

    int poke(int address, int word) {
        int before = memory[address];
        memory[address] = word;
        return before;
    }

    int run(int cycles) {
        int done = 0;
        for (int i = 0; i < cycles; i++) {
            done += cycle();
        }
        return done;
    }

    int stuck(int limit) {
        MachineOracle copy = copy();
        copy.run(limit);
        int mask = 0;
        for (int e : cores.keySet()) {
            if (cores.get(e).enabled && copy.cores.get(e).counts[0] == cores.get(e).counts[0]) {
                mask |= 1 << e;
            }
        }
        return mask;
    }

    int cyclesUntil(int pin, int level, int limit) {
        MachineOracle copy = copy();
        for (int i = 0; i <= limit; i++) {
            if (copy.levels()[pin] == level) {
                return i;
            }
            copy.cycle();
        }
        return -1;
    }

    int cyclesTo(int e, int address, int limit) {
        MachineOracle copy = copy();
        for (int i = 0; i <= limit; i++) {
            if (copy.cores.get(e).pc == address) {
                return i;
            }
            copy.cycle();
        }
        return -1;
    }

    int period(int pin, int limit) {
        MachineOracle copy = copy();
        List<Integer> rises = new ArrayList<>();
        for (int i = 0; i < limit; i++) {
            int before = copy.levels()[pin];
            copy.cycle();
            if (before == 0 && copy.levels()[pin] == 1) {
                rises.add(i);
            }
        }
        return rises.size() < 2 ? -1 : rises.get(1) - rises.get(0);
    }

    private int cycle() {
        for (int[] entry : new ArrayList<>(scheduled)) {
            if (entry[0] == clock) {
                outside[entry[1]] = entry[2];
                scheduled.remove(entry);
            }
        }
        seen = levels();
        seenFlags = flags.clone();
        pinWrites.clear();
        raised.clear();
        cleared.clear();
        List<Integer> ticking = new ArrayList<>();
        for (int e = 0; e < 4; e++) {
            Core core = cores.get(e);
            if (core != null && core.enabled) {
                core.counter += 256;
                if (core.counter >= core.period()) {
                    core.counter -= core.period();
                    ticking.add(e);
                }
            }
        }
        int granted = -1;
        for (int i = 0; i < 4 && granted < 0; i++) {
            int e = owner < 0 ? i : (owner + 1 + i) % 4;
            if (ticking.contains(e) && cores.get(e).delay == 0) {
                String word = program.get(cores.get(e).pc).get(0);
                if (word.equals("load") || word.equals("store")) {
                    granted = e;
                }
            }
        }
        owner = granted < 0 ? owner : granted;
        int done = 0;
        for (int e : ticking) {
            done += tick(cores.get(e), e == granted) ? 1 : 0;
        }
        for (int[] write : pinWrites) {
            (write[0] == 0 ? latches : directions)[write[1]] = write[2];
        }
        for (int flag : cleared) {
            flags[flag] = 0;
        }
        for (int flag : raised) {
            flags[flag] = 1;
        }
        past.add(levels());
        clock++;
        return done;
    }

    private boolean tick(Core core, boolean hasPort) {
        if (core.delay > 0) {
            core.delay--;
            core.counts[2]++;
            return false;
        }
        int address = core.pc;
        boolean wasStalled = core.stall != 0;
        newPc = null;
        int reason = attempt(core, program.get(address), hasPort);
        if (!wasStalled && sides.get(address) >= 0) {
            write(core, "sidepins", 0, sides.get(address));
        }
        core.stall = reason;
        if (reason != 0) {
            core.counts[1]++;
            return false;
        }
        core.counts[0]++;
        core.delay = delays.get(address);
        if (newPc != null) {
            core.pc = newPc;
        } else if (core.settings.containsKey("wrap") && labels.get(core.settings.get("wrap").get(1)) == address) {
            core.pc = labels.get(core.settings.get("wrap").get(0));
        } else {
            core.pc = address == program.size() - 1 ? 0 : address + 1;
        }
        return true;
    }

    /** What 0: output bits, 1: directions. */
    private void write(Core core, String group, int what, int value) {
        for (int i = 0; i < core.setting(group, 1, 0); i++) {
            pinWrites.add(new int[] {what, (core.setting(group, 0, 0) + i) % 16, i < 32 ? value >>> i & 1 : 0});
        }
    }

    private int attempt(Core core, List<String> words, boolean hasPort) {
        String second = words.size() > 1 ? words.get(1) : "";
        String last = words.get(words.size() - 1);
        int number = Character.isDigit(last.charAt(0)) ? Integer.parseInt(last) : -1;
        switch (words.get(0)) {
            case "jmp":
                if (words.size() == 2 || condition(core, second)) {
                    newPc = labels.get(last);
                }
                return 0;
            case "wait": {
                int wanted = Integer.parseInt(second);
                if (words.get(2).equals("pin")) {
                    return seen[(core.setting("inpins", 0, 0) + number) % 16] == wanted ? 0 : 1;
                }
                if (seenFlags[number] != wanted) {
                    return 1;
                }
                if (wanted == 1) {
                    cleared.add(number);
                }
                return 0;
            }
            case "in":
                return in(core, source(core, second), number);
            case "out":
                return out(core, second, number);
            case "push":
                if (words.contains("iffull") && core.fill < core.setting("autopush", 0, 32)) {
                    return 0;
                }
                if (core.outputs.size() < 8 - core.inputRoom()) {
                    append(core, core.in);
                } else if (words.contains("noblock")) {
                    core.counts[5]++;
                } else {
                    return 3;
                }
                core.in = 0;
                core.fill = 0;
                return 0;
            case "pull":
                if (words.contains("ifempty") && core.spent < core.setting("autopull", 0, 32)) {
                    return 0;
                }
                if (core.inputs.isEmpty() && !words.contains("noblock")) {
                    return 2;
                }
                if (core.inputs.isEmpty()) {
                    core.out = core.x;
                } else {
                    core.out = core.inputs.remove(0);
                    core.counts[4]++;
                }
                core.spent = 0;
                return 0;
            case "mov": {
                int word = source(core, last);
                if (words.size() == 4) {
                    int changed = 0;
                    for (int i = 0; i < 32; i++) {
                        boolean not = words.get(2).equals("not");
                        changed |= not ? (1 - (word >>> i & 1)) << i : (word >>> i & 1) << 31 - i;
                    }
                    word = changed;
                }
                give(core, second, word, "outpins");
                core.fill = second.equals("isr") ? 0 : core.fill;
                core.spent = second.equals("osr") ? 0 : core.spent;
                return 0;
            }
            case "raise":
                raised.add(number);
                return 0;
            case "clear":
                cleared.add(number);
                return 0;
            case "signal":
                if (core.stall == 0) {
                    raised.add(number);
                    return 5;
                }
                return seenFlags[number] == 0 ? 0 : 5;
            case "set":
                give(core, second, number, "setpins");
                return 0;
            default: {
                if (!hasPort) {
                    return 4;
                }
                int place = Math.floorMod(last.equals("x") ? core.x : last.equals("y") ? core.y : number, 16);
                if (words.get(0).equals("store")) {
                    memory[place] = source(core, second);
                } else {
                    give(core, second, memory[place], "");
                    core.spent = second.equals("osr") ? 0 : core.spent;
                }
                return 0;
            }
        }
    }

    private boolean condition(Core core, String condition) {
        switch (condition) {
            case "xzero":
                return core.x == 0;
            case "yzero":
                return core.y == 0;
            case "xdec":
                return core.x-- != 0;
            case "ydec":
                return core.y-- != 0;
            case "differ":
                return core.x != core.y;
            case "pin":
                return seen[core.setting("jumppin", 0, 0)] == 1;
            default:
                return core.spent < core.setting("autopull", 0, 32);
        }
    }

    private int in(Core core, int word, int bits) {
        int fill = Math.min(32, core.fill + bits);
        boolean pushes = core.settings.containsKey("autopush") && fill >= core.setting("autopush", 0, 32);
        if (pushes && core.outputs.size() >= 8 - core.inputRoom()) {
            return 3;
        }
        // The bits as a text, the most significant one first.
        String old = bitsOf(core.in);
        String added = bitsOf(word).substring(32 - bits);
        core.in = core.settings.containsKey("inleft") ? wordOf((old + added).substring(bits))
                : wordOf((added + old).substring(0, 32));
        core.fill = fill;
        if (pushes) {
            append(core, core.in);
            core.in = 0;
            core.fill = 0;
        }
        return 0;
    }

    private int out(Core core, String target, int bits) {
        if (core.settings.containsKey("autopull") && core.spent >= core.setting("autopull", 0, 32)) {
            if (core.inputs.isEmpty()) {
                return 2;
            }
            core.out = core.inputs.remove(0);
            core.spent = 0;
            core.counts[4]++;
        }
        String all = bitsOf(core.out);
        String zeros = "0".repeat(bits);
        int value;
        if (core.settings.containsKey("outleft")) {
            value = wordOf("0".repeat(32 - bits) + all.substring(0, bits));
            core.out = wordOf(all.substring(bits) + zeros);
        } else {
            value = wordOf("0".repeat(32 - bits) + all.substring(32 - bits));
            core.out = wordOf(zeros + all.substring(0, 32 - bits));
        }
        core.spent = Math.min(32, core.spent + bits);
        give(core, target, value, "outpins");
        core.fill = target.equals("isr") ? bits : core.fill;
        return 0;
    }

    private static String bitsOf(int word) {
        String bits = Integer.toBinaryString(word);
        return "0".repeat(32 - bits.length()) + bits;
    }

    private static int wordOf(String bits) {
        return Integer.parseUnsignedInt(bits, 2);
    }

    private static void append(Core core, int word) {
        core.outputs.add(word);
        core.counts[3]++;
    }

    private void give(Core core, String target, int word, String group) {
        switch (target) {
            case "pins":
                write(core, group, 0, word);
                break;
            case "dirs":
                write(core, group, 1, word);
                break;
            case "x":
                core.x = word;
                break;
            case "y":
                core.y = word;
                break;
            case "isr":
                core.in = word;
                break;
            case "osr":
                core.out = word;
                break;
            case "pc":
                newPc = Integer.remainderUnsigned(word, program.size());
                break;
            default:
                break;
        }
    }

    private int source(Core core, String source) {
        switch (source) {
            case "pins": {
                int word = 0;
                for (int i = 0; i < 16; i++) {
                    word |= seen[(core.setting("inpins", 0, 0) + i) % 16] << i;
                }
                return word;
            }
            case "x":
                return core.x;
            case "y":
                return core.y;
            case "isr":
                return core.in;
            case "osr":
                return core.out;
            case "status":
                return core.inputs.isEmpty() ? -1 : 0;
            default:
                return 0;
        }
    }

    /** Evaluates a query without errors by its text, with the brackets and 'not' taken literally. */
    int query(String text) {
        List<String> words = new ArrayList<>();
        for (GrammarOracle.Token token : GrammarOracle.tokens(text)) {
            words.add(token.text());
        }
        int count = 0;
        for (int e : new java.util.TreeSet<>(cores.keySet())) {
            List<String> left = new ArrayList<>(words.subList(1, words.size() - 1));
            if (test(left, e)) {
                if (words.get(0).equals("first")) {
                    return e;
                }
                count++;
            }
        }
        return words.get(0).equals("first") ? -1 : count;
    }

    private boolean test(List<String> left, int e) {
        boolean holds = conjunction(left, e);
        while (!left.isEmpty() && left.get(0).equals("or")) {
            left.remove(0);
            boolean next = conjunction(left, e);
            holds = holds || next;
        }
        return holds;
    }

    private boolean conjunction(List<String> left, int e) {
        boolean holds = factor(left, e);
        while (!left.isEmpty() && left.get(0).equals("and")) {
            left.remove(0);
            boolean next = factor(left, e);
            holds = holds && next;
        }
        return holds;
    }

    private boolean factor(List<String> left, int e) {
        String first = left.remove(0);
        if (first.equals("not")) {
            return !factor(left, e);
        }
        if (first.equals("(")) {
            boolean holds = test(left, e);
            left.remove(0);
            return holds;
        }
        long a = value(first, e);
        String sign = left.remove(0);
        long b = value(left.remove(0), e);
        return sign.equals("<") ? a < b : sign.equals("=") ? a == b : a > b;
    }

    private long value(String word, int e) {
        Core core = cores.get(e);
        switch (word) {
            case "engine":
                return e;
            case "pc":
                return core.pc;
            case "x":
                return core.x;
            case "y":
                return core.y;
            case "isr":
                return core.in;
            case "osr":
                return core.out;
            case "fill":
                return core.fill;
            case "spent":
                return core.spent;
            case "delay":
                return core.delay;
            case "stall":
                return core.stall;
            case "input":
                return core.inputs.size();
            case "output":
                return core.outputs.size();
            default:
                return Long.parseLong(word);
        }
    }

    /** The same text as Checks.state makes of an object. */
    String state() {
        StringBuilder s = new StringBuilder();
        s.append(clock).append(' ').append(mask(levels())).append(' ').append(mask(latches)).append(' ')
                .append(mask(directions)).append(' ').append(mask(flags)).append(' ').append(owner);
        for (int pin = 0; pin < 16; pin++) {
            int edges = 0;
            int high = 0;
            for (int i = 1; i < past.size(); i++) {
                edges += past.get(i)[pin] != past.get(i - 1)[pin] ? 1 : 0;
                high += past.get(i)[pin];
            }
            s.append(' ').append(memory[pin]).append(' ').append(edges).append(' ').append(high);
            for (int age = 0; age < 64; age++) {
                int index = past.size() - 1 - age;
                s.append(',').append(index < 1 ? -1 : past.get(index)[pin]);
            }
        }
        for (int e = 0; e < 4; e++) {
            if (cores.containsKey(e)) {
                appendCore(s, cores.get(e));
            }
        }
        return s.toString();
    }

    private static void appendCore(StringBuilder s, Core core) {
        s.append('\n').append(core.pc).append(' ').append(core.fill).append(' ').append(core.spent).append(' ')
                .append(core.delay).append(' ').append(core.stall).append(' ').append(core.enabled);
        for (int word : Arrays.asList(core.x, core.y, core.in, core.out)) {
            s.append(' ').append(word);
        }
        for (int count : core.counts) {
            s.append(' ').append(count);
        }
        for (int i = 0; i < 9; i++) {
            s.append(' ').append(i < core.inputs.size() ? Integer.toUnsignedLong(core.inputs.get(i)) : -1);
            s.append(' ').append(i < core.outputs.size() ? Integer.toUnsignedLong(core.outputs.get(i)) : -1);
        }
    }

    private static int mask(int[] row) {
        int mask = 0;
        for (int i = 0; i < row.length; i++) {
            mask |= row[i] << i;
        }
        return mask;
    }
}
