/** Promise 46 and the grammar of queries. */
final class BoundariesOfQueries {
    private BoundariesOfQueries() {
    }

    private static PinEngines engines() {
        PinEngines x = Checks.loaded("engine 0 start a;engine 3 start b;a:set x 5;push;mov y not x;pull delay 3;"
                + "b:set y 31;pull;");
        x.run(3);
        return x;
    }

    private static void ok(PinEngines x, String text, int want) {
        Checks.due("query '" + text + "'", Checks.query(x, text), want);
        Checks.due("errorPosition of '" + text + "'", x.errorPosition(), PinEngines.NONE);
    }

    private static void bad(String text, int code, int position) {
        PinEngines x = engines();
        Checks.due("query '" + text + "'", Checks.query(x, text), -1000000000 - code);
        Checks.due("errorPosition of '" + text + "'", x.errorPosition(), position);
    }

    @Sentence(of = "Promise 46", says = "Throws `IllegalArgumentException` if length is negative, greater than 200, "
            + "or greater than the number of bytes in the buffer (nothing changes)")
    static void queryOfAWrongLength() {
        PinEngines x = engines();
        Checks.query(x, "many x = ");
        Checks.feed(x, "many 0=0" + " ".repeat(212));
        String before = Checks.brief(x);
        for (int length : new int[] {-1, 201, 220, 221, 1000, Integer.MIN_VALUE, Integer.MAX_VALUE}) {
            Checks.illegalArgument("query(" + length + ") of 220 bytes", () -> x.query(length));
        }
        Checks.due("the state after the exceptions", Checks.brief(x), before);
        Checks.due("the error position after the exceptions", x.errorPosition(), 9);
        Checks.due("query(200) of the buffer, which is as it was", x.query(200), 2);
    }

    @Sentence(of = "Promise 46", says = "greater than the number of bytes in the buffer (nothing changes)")
    static void queryBeyondTheBuffer() {
        PinEngines x = engines();
        Checks.illegalArgument("query(1) of an empty buffer", () -> x.query(1));
        Checks.feed(x, "many 0=0");
        Checks.illegalArgument("query(21) of 20 bytes", () -> x.query(21));
        Checks.illegalArgument("query(200) of 20 bytes", () -> x.query(200));
        Checks.due("query(20) of 20 bytes", x.query(20), 2);
        Checks.illegalArgument("query(1) of the emptied buffer", () -> x.query(1));
        Checks.due("query(0) of the emptied buffer", x.query(0), -1000000001);
    }

    @Sentence(of = "Promise 46", says = "number of bytes to read, at most 200")
    static void queryOf200Bytes() {
        PinEngines x = engines();
        String text = "many 0=1" + " ".repeat(182) + "or engine=";
        Checks.feed(x, text + "0");
        Checks.due("query(200) of a text that ends too early", x.query(200), -1000000001);
        Checks.due("its position", x.errorPosition(), 200);
        String longest = "many 0=1" + " or 0=1".repeat(26) + " or 0=0   ";
        Checks.due("the length of the longest query", longest.length(), 200);
        ok(x, longest, 2);
        Checks.feed(x, longest + " ");
        Checks.illegalArgument("query(201)", () -> x.query(201));
    }

    @Sentence(of = "Promise 46", says = "The buffer is empty afterwards, also after an error.")
    static void queryEmptiesTheBuffer() {
        for (int length : new int[] {0, 4, 8, 20}) {
            PinEngines x = engines();
            Checks.feed(x, "many 0=0" + " ".repeat(100));
            Checks.due("query(" + length + ")", x.query(length), length < 8 ? -1000000001 : 2);
            Checks.illegalArgument("query(1) after it", () -> x.query(1));
            Checks.illegalArgument("load(1) after it", () -> x.load(1));
            Checks.due("feed after it", x.feed(0, 0, 0, 0, 0), 20);
        }
    }

    @Sentence(of = "Promise 46", says = "evaluates it for every engine that exists, in ascending order.")
    static void queryOfNoEngines() {
        PinEngines x = new PinEngines();
        ok(x, "many 0=0", 0);
        ok(x, "first 0=0", PinEngines.NONE);
        ok(x, "many not 0=0", 0);
        Checks.load(x, "push;");
        ok(x, "many 0=0", 0);
        Checks.load(x, "engine 1 start a;engine 2 start a;a:push;");
        ok(x, "many 0=0", 2);
        ok(x, "first 0=0", 1);
        ok(x, "many engine = 0 or engine = 3", 0);
        ok(x, "many not 0=1", 2);
        x.enable(1, false);
        ok(x, "first 0=0", 1);
    }

    @Sentence(of = "Promise 46", says = "Returns for 'many' the number of engines for which the test holds; "
            + "for 'first' the smallest such engine, or NONE; HIDDEN minus the error code if the text has an error.")
    static void answersOfQueries() {
        PinEngines x = Checks.loaded("engine 0 start a;engine 1 start a;engine 2 start a;engine 3 start a;a:push;");
        for (int low = 0; low <= 4; low++) {
            ok(x, "many engine > " + low + " or engine = " + low, 4 - low);
            ok(x, "first engine > " + low + " or engine = " + low, low == 4 ? PinEngines.NONE : low);
        }
        Checks.due("HIDDEN", PinEngines.HIDDEN, -1000000000);
        bad("many", 1, 4);
        bad("many x=100000", 2, 7);
        bad("many not not not not not not not x=0", 3, 29);
    }

    @Sentence(of = "Operations", says = "- `HIDDEN = -1000000000`: Error results of query start here.")
    static void hidden() {
        Checks.due("HIDDEN", PinEngines.HIDDEN, -1000000000);
        PinEngines x = new PinEngines();
        Checks.due("query of nothing", x.query(0), PinEngines.HIDDEN - 1);
    }

    @Sentence(of = "Operations", says = "- `NONE = -1`: There is no such value.")
    static void none() {
        Checks.due("NONE", PinEngines.NONE, -1);
        PinEngines x = new PinEngines();
        Checks.due("undo", x.undo(), -1);
        Checks.due("errorPosition", x.errorPosition(), -1);
        Checks.due("portOwner", x.portOwner(), -1);
        Checks.due("levelAt", x.levelAt(0, 0), -1);
        Checks.due("cyclesUntil", x.cyclesUntil(0, 1, 0), -1);
        Checks.due("period", x.period(0, 0), -1);
        Checks.due("formattedByte", x.formattedByte(0), -1);
    }

    @Sentence(of = "Input text", says = "value: a number from 0 to 99999, or one of these properties of an engine:")
    static void numbersOfQueries() {
        PinEngines x = engines();
        ok(x, "many 0=0", 2);
        ok(x, "many 99999=99999", 2);
        ok(x, "many 00000000000000099999=0099999", 2);
        ok(x, "many 99998<99999", 2);
        ok(x, "many 99999<99999", 0);
        bad("many 100000=0", 2, 5);
        bad("many 0=100000", 2, 7);
        bad("many 0=000100000", 2, 7);
        bad("many 0=2147483648", 2, 7);
        bad("many 0=4294967296", 2, 7);
        bad("many 0=4294967295", 2, 7);
        bad("many 0=18446744073709551616", 2, 7);
        bad("many 0=-1", 1, 7);
        bad("many 0=" + "9".repeat(190), 2, 7);
    }

    @Sentence(of = "Input text", says = "value ('<' | '=' | '>') value.")
    static void comparisonsAtTheEnds() {
        PinEngines x = Checks.engine("", "load x 0;load y 1;load osr 2;");
        x.poke(0, Integer.MIN_VALUE);
        x.poke(1, Integer.MAX_VALUE);
        x.poke(2, -1);
        x.run(3);
        String[] ascending = {"x", "osr", "0", "1", "99998", "99999", "y"};
        for (int i = 0; i < ascending.length; i++) {
            for (int j = 0; j < ascending.length; j++) {
                ok(x, "many " + ascending[i] + "<" + ascending[j], i < j ? 1 : 0);
                ok(x, "many " + ascending[i] + "=" + ascending[j], i == j ? 1 : 0);
                ok(x, "many " + ascending[i] + ">" + ascending[j], i > j ? 1 : 0);
            }
        }
        bad("many 0<=0", 1, 7);
        bad("many 0==0", 1, 7);
        bad("many 0 0", 1, 7);
        bad("many 0:0", 1, 6);
        bad("many 0", 1, 6);
    }

    @Sentence(of = "Input text", says = "'engine' (its number), 'pc', 'x', 'y', 'isr', 'osr' (its words), 'fill', 'spent' "
            + "(counts), 'delay' (ticks left), 'stall' (reason), 'input', 'output' (words in its queues)")
    static void propertiesAtTheEnds() {
        PinEngines x = Checks.engine("joinin", "mov x not null;mov y reverse x;in null 32;pull noblock delay 31;");
        for (int i = 0; i < 8; i++) {
            x.put(0, Integer.MAX_VALUE);
        }
        x.run(4);
        ok(x, "many engine=0 and pc=0 and fill=32 and spent=0 and delay=31 and stall=0", 1);
        ok(x, "many x<0 and y<x and input=8 and output=0", 0);
        ok(x, "many x<0 and x=y and input=7 and output=0", 1);
        ok(x, "many osr>99999 and not osr<99999", 1);
        PinEngines y = Checks.engine("joinout", "load osr 0;mov isr osr;push;in null 1;pull;");
        y.poke(0, Integer.MIN_VALUE);
        ok(y, "many spent=32 and fill=0 and isr=0 and osr=0", 1);
        y.run(2);
        ok(y, "many isr<0 and osr<0 and isr=osr and spent=0 and output=0", 1);
        y.run(3);
        ok(y, "many pc=4 and stall=2 and output=1 and isr=0 and fill=1", 1);
        PinEngines full = Checks.ran(20, "joinout", "push;");
        ok(full, "many output=8 and stall=3", 1);
        PinEngines last = Checks.loaded("engine 3 start a;" + "push;".repeat(31) + "a:signal 0;");
        last.run(1);
        ok(last, "many engine=3 and pc=31 and stall=5", 1);
    }

    @Sentence(of = "Input text", says = "in a query a 'not' or '(' that would be the seventh one open at the same time.")
    static void sixOpenAndSeven() {
        PinEngines x = engines();
        ok(x, "many " + "not ".repeat(6) + "engine=0", 1);
        ok(x, "many " + "(".repeat(6) + "engine=0" + ")".repeat(6), 1);
        ok(x, "many " + "not(".repeat(3) + "engine=0" + ")".repeat(3), 1);
        bad("many " + "not ".repeat(7) + "engine=0", 3, 29);
        bad("many " + "(".repeat(7) + "engine=0" + ")".repeat(7), 3, 11);
        bad("many " + "not(".repeat(3) + "not engine=0" + ")".repeat(3), 3, 17);
        bad("many " + "not(".repeat(3) + "(engine=0" + ")".repeat(4), 3, 17);
        bad("many " + "(".repeat(6) + "not engine=0" + ")".repeat(6), 3, 11);
        bad("many " + "not ".repeat(6) + "(engine=0)", 3, 29);
        bad("many " + "(".repeat(7), 3, 11);
        bad("many " + "(".repeat(6), 1, 11);
        bad("many " + "(".repeat(6) + ")", 1, 11);
    }

    @Sentence(of = "Input text", says = "A 'not' is open until the end of its factor.")
    static void openUntilTheEndOfTheFactor() {
        PinEngines x = engines();
        String six = "not ".repeat(6) + "0=0";
        ok(x, "many " + six + " and " + six + " or " + six, 2);
        ok(x, "many " + "(".repeat(6) + "0=0" + ")".repeat(6) + " and " + six, 2);
        ok(x, "many (((((not 0=1 and not 0=1 or not 0=0)))))", 2);
        ok(x, "many not(((((0=1)))))and((((((0=0))))))", 2);
        bad("many (((((not 0=1 and not not 0=0)))))", 3, 26);
        bad("many (((((not 0=1 and ((0=0)))))))", 3, 23);
        bad("many not not not not not (not 0=0)", 3, 26);
        ok(x, "many not not not not (not 0=1) and (((((not 0=1)))))", 2);
    }

    @Sentence(of = "Input text", says = "If several codes apply to one token, the smallest one counts.")
    static void smallestCodeInQueries() {
        bad("many not not not not not not 0=not", 1, 31);
        bad("many ((((((0=(", 1, 13);
        bad("many 0 100000", 1, 7);
        bad("100000", 1, 0);
        bad("many 0=0 100000", 1, 9);
    }

    @Sentence(of = "Input text", says = "1: the token is not allowed here, or the text ends too early "
            + "(the position is then the length of the text).")
    static void earlyEndsOfQueries() {
        bad("", 1, 0);
        bad(" ", 1, 1);
        bad("first", 1, 5);
        bad("many not", 1, 8);
        bad("many (0=0", 1, 9);
        bad("many 0=0 and", 1, 12);
        bad("many 0=0)", 1, 8);
        bad("many 0=0;", 1, 8);
        bad("many " + "0=0 or ".repeat(27) + "0=0 or", 1, 200);
    }

    @Sentence(of = "Input text", says = "query: ('many' | 'first') test")
    static void onlyTheAlternatives() {
        String properties = "engine pc x y isr osr fill spent delay stall input output";
        only("", " 0=0", "many first");
        only("many ", "=0", properties);
        only("many 0=", "", properties);
        only("many x ", " y", "< = >");
        only("many ", " 0=0", "not");
        only("many ", "0=0)", "(");
        only("many (0=0", "", ")");
        only("many 0=0 ", " 0=0", "or and");
    }

    /** Of all quoted words and all signs those, and no others, may stand here. */
    private static void only(String before, String after, String tokens) {
        PinEngines x = engines();
        for (String token : Document.wordsAndSigns()) {
            int got = Checks.query(x, before + token + after);
            boolean allowed = (" " + tokens + " ").contains(" " + token + " ");
            Checks.due("query '" + before + token + after + "' has no error", got > -10, allowed);
            if (!allowed) {
                Checks.due("the error of '" + before + token + after + "'", got, -1000000001);
                Checks.due("its position is not before the token", x.errorPosition() >= before.length(), true);
            }
        }
    }

    @Sentence(of = "Promise 46", says = "Reads the first bytes of the buffer as a query")
    static void queryOfTheFirstBytes() {
        PinEngines x = engines();
        Checks.feed(x, "many engine=0 or 0=0");
        Checks.due("query(13)", x.query(13), 1);
        Checks.feed(x, "many engine=0 or 0=0");
        Checks.due("query(12)", x.query(12), -1000000001);
        Checks.due("its position", x.errorPosition(), 12);
        Checks.feed(x, "many engine=33333333");
        Checks.due("query(13) of a part of a number", x.query(13), 1);
        Checks.feed(x, "many pc=pcpcpcpcpcpc");
        Checks.due("query(10) of a part of a word", x.query(10), 2);
    }
}
