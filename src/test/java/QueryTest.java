/** Promise 46: query, and errorPosition after it. */
public final class QueryTest {
    public static void main(String[] args) {
        properties();
        logic();
        answers();
        wrongTexts();
        depth();
        buffer();
        Checks.finish("QueryTest");
    }

    private static PinEngines engines() {
        PinEngines x = Checks.loaded("engine 0 start a;engine 1 start b;engine 3 start c joinin;"
                + "a:set x 5;mov isr not null;in null 4;push;mov y not x delay 20;"
                + "b:set y 9;in y 5;pull;jmp b;"
                + "c:mov osr not null;out null 20;wait 1 pin 3;");
        x.put(3, 1);
        x.put(3, 2);
        x.run(6);
        return x;
    }

    private static void properties() {
        // Engine 0: pc 5, X 5, Y ~5, O 0, one word out, 19 ticks left; 1: pc 7; 3: pc 11.
        String[][] dues = {
            {"engine", "0", "1", "3"}, {"pc", "5", "7", "11"}, {"x", "5", "0", "0"}, {"fill", "0", "5", "0"},
            {"spent", "32", "32", "20"}, {"delay", "19", "0", "0"}, {"stall", "0", "2", "1"},
            {"input", "0", "0", "2"}, {"output", "1", "0", "0"}, {"osr", "0", "0", "4095"}, {"y", "", "9", "0"},
            {"isr", "0", "", "0"}};
        PinEngines x = engines();
        for (String[] due : dues) {
            for (int i = 0; i < 3; i++) {
                int engine = i == 2 ? 3 : i;
                if (!due[i + 1].isEmpty()) {
                    due(x, "first " + due[0] + " = " + due[i + 1] + " and engine = " + engine, engine);
                    due(x, "many engine=" + engine + " and " + due[1 - 1] + " < " + due[i + 1], 0);
                    due(x, "many engine=" + engine + " and " + due[0] + " > " + due[i + 1], 0);
                }
            }
        }
        due(x, "first y < 0", 0);
        due(x, "many y < 0", 1);
        due(x, "first isr > 0", 1);
        PinEngines words = Checks.loaded("engine 0 start a;a:mov x not null;mov y reverse x;in x 1;push;");
        words.run(3);
        due(words, "many x = y", 1);
        due(words, "many x < 0 and y < 0 and isr < 0", 1);
        due(words, "many isr < x", 1);
        due(words, "many 99999 > x", 1);
    }

    private static void logic() {
        PinEngines x = engines();
        due(x, "many 0=0", 3);
        due(x, "many 0=1", 0);
        due(x, "many engine = 0 or engine = 1", 2);
        due(x, "many engine = 0 and engine = 1", 0);
        due(x, "many engine = 0 or engine = 1 and engine = 3", 1);
        due(x, "many (engine = 0 or engine = 1) and engine = 3", 0);
        due(x, "many engine = 3 and engine = 1 or engine = 0", 1);
        due(x, "many engine = 3 and (engine = 1 or engine < 4)", 1);
        due(x, "many not engine = 0", 2);
        due(x, "many not engine = 0 and engine = 1", 1);
        due(x, "many not engine = 0 or engine = 0", 3);
        due(x, "many not (engine = 0 and engine = 1)", 3);
        due(x, "many not not engine = 0", 1);
        due(x, "many not (not engine = 0 or engine = 0)", 0);
        due(x, "many ((((engine < 2))))", 2);
        due(x, "many 1<2", 3);
        due(x, "many 2<2", 0);
        due(x, "many 2>1", 3);
        due(x, "many 2>2", 0);
        due(x, "many 2=2", 3);
        due(x, "many 00099999 = 99999", 3);
        due(x, "first engine > 1 or engine = 1", 1);
        due(x, "first engine > 1", 3);
        due(x, "first engine = 2", PinEngines.NONE);
        due(x, "many engine = 2", 0);
        due(x, "many\nengine\n=\n2\n", 0);
        due(x, "manyengine=2", -1000000001);
    }

    private static void answers() {
        PinEngines x = new PinEngines();
        due(x, "many 0=0", 0);
        due(x, "first 0=0", PinEngines.NONE);
        due(x, "many 0=0 or", -1000000001);
        PinEngines y = Checks.loaded("engine 2 start a;a:push;");
        due(y, "first 0 = 0", 2);
        due(y, "many 0 = 0", 1);
        y.enable(2, false);
        due(y, "many 0 = 0", 1);
        Checks.due("query is no operation", y.undoCount(), 1);
    }

    private static void wrongTexts() {
        bad("", 1, 0);
        bad("  ", 1, 2);
        bad("engine = 0", 1, 0);
        bad("many", 1, 4);
        bad("many ", 1, 5);
        bad("many many", 1, 5);
        bad("first = 0", 1, 6);
        bad("many x", 1, 6);
        bad("many x =", 1, 8);
        bad("many x = y y", 1, 11);
        bad("many x = y)", 1, 10);
        bad("many (x = y", 1, 11);
        bad("many (x = y or", 1, 14);
        bad("many x = y and or x = y", 1, 15);
        bad("many (x) = y", 1, 7);
        bad("many () ", 1, 6);
        bad("many x == y", 1, 8);
        bad("many x < = y", 1, 9);
        bad("many x = -1", 1, 9);
        bad("many x = foo", 1, 9);
        bad("many start = 0", 1, 5);
        bad("many pins = 0", 1, 5);
        bad("many status = 0", 1, 5);
        bad("many x = not y", 1, 9);
        bad("many x = y;", 1, 10);
        bad("many x = y first", 1, 11);
        bad("MANY x = y", 1, 0);
        bad("many x = y\t", 1, 10);
        bad("many x \u00e9 y", 1, 7);
        bad("many x = 100000", 2, 9);
        bad("many 100000 = x", 2, 5);
        bad("many x = 99999999999999999999", 2, 9);
        bad("many x = 100000 or", 2, 9);
        bad("many x = 99999 or", 1, 17);
        bad("many 4294967296 = 0", 2, 5);
    }

    private static void depth() {
        PinEngines x = engines();
        due(x, "many not not not not not not engine = 0", 1);
        due(x, "many ((((((engine = 0))))))", 1);
        due(x, "many not (not (not (engine = 0)))", 2);
        due(x, "many (not (not engine = 0 and ((0=0)) or not ((0=1))))", 0);
        bad("many not not not not not not not engine = 0", 3, 29);
        bad("many (((((((engine = 0)))))))", 3, 11);
        bad("many not (not (not (not engine = 0)))", 3, 20);
        bad("many not (not (not (not", 3, 20);
        bad("many ((((((not engine = 0))))))", 3, 11);
        bad("many not not not not not not (0 = 0)", 3, 29);
        bad("many (((((( )))))) ", 1, 12);
        String many = "many not not not not not not 0=0 and not not not not not not 0=0 or ((((((0=0))))))";
        due(x, many, 3);
        due(x, "many (((((not 0=1)))) and (((( 0=0)))))", 3);
        bad("many (((((not 0=1 and ((0=0)))))))", 3, 23);
        due(x, "many (((((not 0=1 and (0=0))))))", 3);
    }

    private static void buffer() {
        PinEngines x = engines();
        Checks.illegalArgument("query(1) of nothing", () -> x.query(1));
        Checks.illegalArgument("query(-1)", () -> x.query(-1));
        Checks.illegalArgument("query(MIN_VALUE)", () -> x.query(Integer.MIN_VALUE));
        Checks.due("query(0)", x.query(0), -1000000001);
        Checks.due("errorPosition", x.errorPosition(), 0);
        String longest = "many 0=0" + " or 0=1".repeat(27) + "   ";
        Checks.feed(x, longest + " ".repeat(20));
        Checks.illegalArgument("query(201)", () -> x.query(201));
        Checks.illegalArgument("query(MAX_VALUE)", () -> x.query(Integer.MAX_VALUE));
        Checks.due("errorPosition after an exception", x.errorPosition(), 0);
        Checks.due("query(200)", x.query(200), 3);
        Checks.due("errorPosition", x.errorPosition(), PinEngines.NONE);
        Checks.illegalArgument("query(1) of the emptied buffer", () -> x.query(1));
        Checks.feed(x, "many pc = ");
        Checks.due("query with an error", x.query(10), -1000000001);
        Checks.due("errorPosition", x.errorPosition(), 10);
        Checks.illegalArgument("query(1) after the error", () -> x.query(1));
        Checks.feed(x, "many 0=0 or x");
        Checks.due("query of the first bytes", x.query(8), 3);
        Checks.due("load after it", x.load(0), 0);
        Checks.due("errorPosition", x.errorPosition(), PinEngines.NONE);
    }

    private static void due(PinEngines x, String text, int want) {
        Checks.due("query '" + text + "'", Checks.query(x, text), want);
        Checks.due("errorPosition of '" + text + "'", x.errorPosition(),
                want < -1 ? x.errorPosition() : PinEngines.NONE);
    }

    private static void bad(String text, int code, int position) {
        PinEngines x = engines();
        Checks.due("query '" + text + "'", Checks.query(x, text), PinEngines.HIDDEN - code);
        Checks.due("errorPosition of '" + text + "'", x.errorPosition(), position);
    }
}
