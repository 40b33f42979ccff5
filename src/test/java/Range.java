/** The ends of a range of numbers that a call takes, and the numbers outside it, which must change nothing. */
final class Range {
    /** A call with a number. */
    interface Numbered {
        void make(PinEngines engines, int number);
    }

    private Range() {
    }

    /** Numbers outside the range have the NoSuchElementException; those in it, tried at last, have none. */
    static void ofElements(PinEngines x, int low, int high, Numbered call) {
        String before = Checks.brief(x);
        for (int number : outside(low, high)) {
            Checks.noSuchElement("the number " + number, () -> call.make(x, number));
        }
        Checks.due("the state after the refused calls", Checks.brief(x), before);
        allowed(x, low, high, call);
    }

    /** The same with the IllegalArgumentException. */
    static void ofArguments(PinEngines x, int low, int high, Numbered call) {
        String before = Checks.brief(x);
        for (int number : outside(low, high)) {
            Checks.illegalArgument("the number " + number, () -> call.make(x, number));
        }
        Checks.due("the state after the refused calls", Checks.brief(x), before);
        allowed(x, low, high, call);
    }

    private static int[] outside(int low, int high) {
        return new int[] {low - 1, high + 1, low - 32, high + 32, high + 65536, Integer.MIN_VALUE, Integer.MAX_VALUE};
    }

    private static void allowed(PinEngines x, int low, int high, Numbered call) {
        Checks.nothingThrown("the number " + low, () -> call.make(x, low));
        Checks.nothingThrown("the number " + high, () -> call.make(x, high));
    }
}
