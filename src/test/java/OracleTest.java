import java.util.ArrayList;
import java.util.List;
import java.util.Random;

/** Random programs, calls, texts and queries: the class against the oracles, always with the same seeds. */
public final class OracleTest {
    private static final String[] IN = {"pins", "x", "y", "null", "isr", "osr"};
    private static final String[] OUT = {"pins", "x", "y", "null", "dirs", "pc", "isr"};
    private static final String[] MOV_TO = {"pins", "x", "y", "pc", "isr", "osr"};
    private static final String[] MOV_FROM = {"pins", "x", "y", "null", "status", "isr", "osr"};
    private static final String[] PROPERTIES = {"engine", "pc", "x", "y", "isr", "osr", "fill", "spent", "delay",
        "stall", "input", "output"};
    private static final String[] ODD = {";", ":", "(", ")", "not", "a", "lb", "side", "delay", "7", "33", "999999", "x",
        "jmp", "wait", "engine", "level", "wrap", "\t", "pin", "many", "or", "=", "start", "push", "noblock", "0"};

    private static Random random = new Random(1);

    public static void main(String[] args) {
        PinEngines used = new PinEngines();
        for (int seed = 0; seed < 400; seed++) {
            random = new Random(seed);
            used = seed % 3 == 0 ? new PinEngines() : used;
            runCalls(used);
        }
        everyWordAtEveryPlace();
        for (int seed = 0; seed < 3000; seed++) {
            random = new Random(seed);
            judgeProgram();
            judgeQuery();
        }
        Checks.finish("OracleTest");
    }

    private static int below(int bound) {
        return random.nextInt(bound);
    }

    private static String one(String... words) {
        return words[below(words.length)];
    }

    /** Small numbers and words of all kinds. */
    private static int word() {
        int kind = below(4);
        return kind == 0 ? below(40) : kind == 1 ? -below(40) : kind == 2 ? 1 << below(32) : random.nextInt();
    }

    private static String label(int count) {
        return "l" + (char) ('a' + below(count));
    }

    private static String program() {
        int count = 2 + below(16);
        StringBuilder text = new StringBuilder();
        boolean enginesFirst = below(2) == 0;
        String engines = engines(count);
        if (enginesFirst) {
            text.append(engines);
        }
        for (int i = 0; i < count; i++) {
            text.append('l').append((char) ('a' + i)).append(':').append(instruction(count));
            text.append(below(3) == 0 ? " side " + below(16) : "").append(below(3) == 0 ? " delay " + below(4) : "");
            text.append(below(9) == 0 ? "\n; " : ";");
        }
        if (!enginesFirst) {
            text.append(engines);
        }
        return text.length() <= 1000 ? text.toString() : program();
    }

    private static String engines(int count) {
        StringBuilder text = new StringBuilder();
        for (int pin = 0; pin < 16; pin++) {
            text.append(below(5) == 0 ? "level " + pin + " " + below(2) + ";" : "");
        }
        for (int e = 0; e < 4; e++) {
            if (below(3) > 0) {
                text.append("engine ").append(e).append(" start ").append(label(count));
                int settings = below(7);
                for (int i = 0; i < settings; i++) {
                    text.append(' ').append(setting(count));
                }
                text.append(';');
            }
        }
        return text.toString();
    }

    private static String setting(int count) {
        switch (below(13)) {
            case 0:
                return "clock " + (1 + below(3)) + " " + below(256);
            case 1:
                return "wrap " + label(count) + " " + label(count);
            case 2:
            case 3:
                return "outpins " + below(16) + " " + (1 + below(16));
            case 4:
                return "setpins " + below(16) + " " + (1 + below(5));
            case 5:
                return "sidepins " + below(16) + " " + (1 + below(4));
            case 6:
                return "inpins " + below(16);
            case 7:
                return "jumppin " + below(16);
            case 8:
                return one("inleft", "outleft");
            case 9:
            case 10:
                return "autopush " + (1 + below(32));
            case 11:
                return "autopull " + (1 + below(32));
            default:
                return one("joinin", "joinout");
        }
    }

    private static String instruction(int count) {
        switch (below(17)) {
            case 0:
                return "jmp " + label(count);
            case 1:
            case 2:
                return "jmp " + one("xzero", "yzero", "xdec", "ydec", "differ", "pin", "more") + " " + label(count);
            case 3:
                return "wait " + below(2) + one(" pin " + below(16), " flag " + below(3));
            case 4:
            case 5:
                return "in " + one(IN) + " " + (below(4) == 0 ? 32 : 1 + below(32));
            case 6:
            case 7:
                return "out " + one(OUT) + " " + (below(4) == 0 ? 32 : 1 + below(32));
            case 8:
                return "push" + one("", " iffull") + one("", " noblock");
            case 9:
                return "pull" + one("", " ifempty") + one("", " noblock");
            case 10:
            case 11:
                return "mov " + one(MOV_TO) + one("", " not", " reverse") + " " + one(MOV_FROM);
            case 12:
                return one("raise ", "clear ", "signal ") + below(3);
            case 13:
            case 14:
                return "set " + one("pins", "dirs", "x", "y") + " " + below(32);
            case 15:
                return "load " + one("x", "y", "osr") + " " + one("x", "y", "" + below(4));
            default:
                return "store " + one("x", "y", "isr") + " " + one("x", "y", "" + below(4));
        }
    }

    private static void runCalls(PinEngines x) {
        String text = program();
        Checks.due("load of " + text, Math.min(0, Checks.load(x, text)), 0);
        MachineOracle oracle = new MachineOracle(text);
        List<MachineOracle> history = new ArrayList<>();
        MachineOracle snapshot = null;
        Checks.due("engines of " + text, x.engines(), oracle.engineMask());
        for (int address = 0; address < oracle.instructions(); address++) {
            Checks.due("format", Checks.format(x, address), oracle.format(address));
        }
        for (int call = 0; call < 60; call++) {
            int what = below(20);
            if (what == 0 && !history.isEmpty()) {
                oracle = history.remove(history.size() - 1);
                Checks.due("undo", x.undo(), history.size());
            } else if (what == 1 && call % 3 == 0) {
                x.saveSnapshot();
                snapshot = oracle.copy();
            } else if (what == 2 && call % 3 == 0) {
                Checks.due("restoreSnapshot", x.restoreSnapshot(), snapshot != null);
                if (snapshot != null) {
                    oracle = snapshot.copy();
                    history.clear();
                }
            } else if (what < 6) {
                forecast(x, oracle);
            } else {
                MachineOracle before = oracle.copy();
                if (operate(x, oracle)) {
                    history.add(before);
                    if (history.size() > 10) {
                        history.remove(0);
                    }
                }
                Checks.due("undoCount", x.undoCount(), history.size());
            }
            String query = query();
            Checks.due("query " + query, Checks.query(x, query), oracle.query(query));
            Checks.due("state with " + text, Checks.state(x), oracle.state());
        }
    }

    private static void forecast(PinEngines x, MachineOracle oracle) {
        int pin = below(16);
        int limit = below(5) == 0 ? 150 : below(30);
        Checks.due("cyclesUntil", x.cyclesUntil(pin, limit & 1, limit), oracle.cyclesUntil(pin, limit & 1, limit));
        Checks.due("period", x.period(pin, limit), oracle.period(pin, limit));
        Checks.due("stuck", x.stuck(limit), oracle.stuck(limit));
        for (int e : oracle.cores.keySet()) {
            int address = below(oracle.instructions());
            Checks.due("cyclesTo", x.cyclesTo(e, address, limit), oracle.cyclesTo(e, address, limit));
        }
    }

    /** Returns whether the operation was recorded. */
    private static boolean operate(PinEngines x, MachineOracle oracle) {
        int what = below(12);
        int pin = below(16);
        int word = word();
        if (what < 6 && !oracle.cores.isEmpty()) {
            List<Integer> engines = new ArrayList<>(oracle.cores.keySet());
            return operateEngine(x, oracle, what, engines.get(below(engines.size())));
        }
        switch (what) {
            case 7:
                Checks.due("drive", x.drive(pin, word & 1), oracle.drive(pin, word & 1));
                return true;
            case 8: {
                int cycle = oracle.clock + below(20);
                int got = x.schedule(cycle, pin, word & 1);
                Checks.due("schedule", got, oracle.schedule(cycle, pin, word & 1));
                return got > 0;
            }
            case 9:
                Checks.due("poke", x.poke(pin, word), oracle.poke(pin, word));
                return true;
            default: {
                int cycles = below(4) == 0 ? below(60) : below(6);
                Checks.due("run", x.run(cycles), oracle.run(cycles));
                return true;
            }
        }
    }

    private static boolean operateEngine(PinEngines x, MachineOracle oracle, int what, int e) {
        int word = word();
        switch (what) {
            case 0:
                Checks.due("enable", x.enable(e, word > 0), oracle.enable(e, word > 0));
                return true;
            case 1:
                if (below(3) > 0) {
                    Checks.due("enable", x.enable(e, true), oracle.enable(e, true));
                } else {
                    Checks.due("restart", x.restart(e), oracle.restart(e));
                }
                return true;
            case 2:
            case 3: {
                long got = x.take(e);
                Checks.due("take", got, oracle.take(e));
                return got >= 0;
            }
            default: {
                int got = x.put(e, word);
                Checks.due("put", got, oracle.put(e, word));
                return got > 0;
            }
        }
    }

    private static String query() {
        String text = one("many ", "first ") + test(3);
        return text.length() <= 200 ? text : "many 0=0";
    }

    private static String test(int depth) {
        String text = conjunction(depth);
        while (below(3) == 0) {
            text += " or " + conjunction(depth);
        }
        return text;
    }

    private static String conjunction(int depth) {
        String text = factor(depth);
        while (below(3) == 0) {
            text += " and " + factor(depth);
        }
        return text;
    }

    private static String factor(int depth) {
        if (depth > 0 && below(3) == 0) {
            return below(2) == 0 ? "not " + factor(depth - 1) : "(" + test(depth - 1) + ")";
        }
        return value() + one("<", " = ", ">") + value();
    }

    private static String value() {
        return below(3) == 0 ? "" + below(40) : one(PROPERTIES);
    }

    private static void everyWordAtEveryPlace() {
        String words = "engine start level side delay clock wrap outpins setpins sidepins inpins jumppin inleft outleft"
                + " autopush autopull joinin joinout jmp xzero yzero xdec ydec differ pin more wait flag in pins x y null"
                + " isr osr out dirs pc push iffull noblock pull ifempty mov not reverse status raise clear signal set"
                + " load store many first or and fill spent stall input output a zz 0 1 2 6 40 99999 100000 : ; ( ) < = >"
                + " ! A 1a";
        String[] places = {"", "a:", "engine ", "engine 0 ", "engine 0 start ", "engine 0 start a ",
            "engine 0 start a inleft ", "engine 0 start a clock ", "engine 0 start a clock 1 ",
            "engine 0 start a wrap ", "engine 0 start a wrap a ", "engine 0 start a outpins ",
            "engine 0 start a outpins 1 ", "level ", "level 1 ", "level 1 1 ", "a:jmp ", "a:jmp pin ", "a:jmp a ",
            "wait ", "wait 1 ", "wait 1 pin ", "wait 1 flag ", "in ", "in x ", "in x 1 ", "out ", "out x ", "push ",
            "push iffull ", "push noblock ", "push iffull noblock ", "pull ", "pull ifempty ", "pull noblock ", "mov ",
            "mov x ", "mov x not ", "mov x reverse ", "mov x y ", "raise ", "clear ", "signal ", "signal 1 ", "set ",
            "set x ", "set x 1 ", "load ", "load x ", "load x y ", "store ", "store x ", "store x 1 ", "push side ",
            "push side 1 ", "push side 1 delay ", "push side 1 delay 1 ", "push delay ", "push delay 1 "};
        String[] queries = {"", "many ", "many x ", "many x = ", "many x = y ", "many ( ", "many (x ", "many (x = y ",
            "many not ", "many not x = y ", "many x = y or ", "many x = y and ", "many (x = y) ", "many x = y )"};
        for (String word : words.split(" ")) {
            for (String place : places) {
                judge("program", place + word);
                judge("program", place + word + " 1;");
                judge("program", place + word + ";a:push;");
            }
            for (String place : queries) {
                judge("query", place + word);
                judge("query", place + word + " = 1");
                judge("query", place + word + " 1");
            }
        }
    }

    private static void judgeProgram() {
        String text = program();
        if (below(4) == 0) {
            text += "push;".repeat(below(40));
        }
        int limit = below(5) == 0 ? below(text.length()) : text.length();
        text = mutated(text.substring(0, limit), below(3));
        judge("program", text);
    }

    private static void judgeQuery() {
        int open = below(5);
        String test = "not ".repeat(below(3)) + "(".repeat(open) + test(4);
        int closed = below(4) == 0 ? below(5) : open;
        String text = mutated(one("many ", "first ") + test + ")".repeat(closed), below(3));
        text = text.substring(0, Math.min(200, text.length()));
        judge("query", text);
    }

    /** Compares the error code and its position; the number that is answered without error is checked elsewhere. */
    private static void judge(String rule, String text) {
        GrammarOracle judge = new GrammarOracle();
        judge.judge(rule, text);
        PinEngines x = new PinEngines();
        int got = rule.equals("query") ? Checks.query(x, text) : Checks.load(x, text);
        int errors = rule.equals("query") ? PinEngines.HIDDEN : -10;
        int code = got < -1 ? errors - got : 0;
        Checks.due(rule + " '" + text + "': code", code, judge.code);
        Checks.due(rule + " '" + text + "': errorPosition", x.errorPosition(), judge.position);
    }

    /** Some tokens are left out, doubled or replaced, and sometimes the end is cut off. */
    private static String mutated(String text, int times) {
        for (int i = 0; i < times; i++) {
            List<GrammarOracle.Token> tokens = GrammarOracle.tokens(text);
            GrammarOracle.Token token = tokens.get(below(tokens.size()));
            String before = text.substring(0, token.position());
            String after = text.substring(token.position() + token.text().length());
            String other = tokens.get(below(tokens.size())).text();
            if (token.kind() == 'n' && below(2) == 0) {
                text = before + (below(2) == 0 ? below(40) : below(200000)) + after;
                continue;
            }
            if (token.kind() == 'N' && below(2) == 0) {
                text = before + label(26) + after;
                continue;
            }
            switch (below(6)) {
                case 0:
                    text = before + after;
                    break;
                case 1:
                    text = before + token.text() + " " + token.text() + after;
                    break;
                case 2:
                    text = before + other + after;
                    break;
                case 3:
                    text = before + one(ODD) + after;
                    break;
                case 4:
                    text = before + " " + one(ODD) + " " + token.text() + after;
                    break;
                default:
                    text = below(4) == 0 ? before : text;
                    break;
            }
        }
        return text.substring(0, Math.min(1000, text.length()));
    }
}
