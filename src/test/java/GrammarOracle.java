import java.util.ArrayList;
import java.util.HashMap;
import java.util.HashSet;
import java.util.List;
import java.util.Map;
import java.util.Set;

/**
 * Judges texts by the document's grammars as they stand there: it follows all their alternatives at
 * once, token by token. It shares no idea with the program's reader, so that the two can be compared.
 */
final class GrammarOracle {
    /** The document's grammars; NUM(low,high) is a number, a # behind it an engine's number. */
    private static final String GRAMMARS =
            "program: clause*\n"
            + "clause: 'engine' NUM(0,3)# 'start' NAME setting* ';' | 'level' NUM(0,15) NUM(0,1) ';'"
            + " | [LABEL ':'] instruction ['side' NUM(0,15)] ['delay' NUM(0,31)] ';'\n"
            + "setting: 'clock' NUM(1,255) NUM(0,255) | 'wrap' NAME NAME | 'outpins' NUM(0,15) NUM(1,16)"
            + " | 'setpins' NUM(0,15) NUM(1,5) | 'sidepins' NUM(0,15) NUM(1,4)"
            + " | 'inpins' NUM(0,15) | 'jumppin' NUM(0,15) | 'inleft' | 'outleft' | 'autopush' NUM(1,32)"
            + " | 'autopull' NUM(1,32) | 'joinin' | 'joinout'\n"
            + "instruction: 'jmp' ['xzero' | 'yzero' | 'xdec' | 'ydec' | 'differ' | 'pin' | 'more'] NAME"
            + " | 'wait' NUM(0,1) ('pin' NUM(0,15) | 'flag' NUM(0,7))"
            + " | 'in' ('pins' | 'x' | 'y' | 'null' | 'isr' | 'osr') NUM(1,32)"
            + " | 'out' ('pins' | 'x' | 'y' | 'null' | 'dirs' | 'pc' | 'isr') NUM(1,32)"
            + " | 'push' ['iffull'] ['noblock'] | 'pull' ['ifempty'] ['noblock']"
            + " | 'mov' ('pins' | 'x' | 'y' | 'pc' | 'isr' | 'osr') ['not' | 'reverse']"
            + " ('pins' | 'x' | 'y' | 'null' | 'status' | 'isr' | 'osr')"
            + " | ('raise' | 'clear' | 'signal') NUM(0,7) | 'set' ('pins' | 'dirs' | 'x' | 'y') NUM(0,31)"
            + " | 'load' ('x' | 'y' | 'osr') place | 'store' ('x' | 'y' | 'isr') place\n"
            + "place: NUM(0,15) | 'x' | 'y'\n"
            + "query: ('many' | 'first') test\n"
            + "test: conjunction ('or' conjunction)*\n"
            + "conjunction: factor ('and' factor)*\n"
            + "factor: 'not' factor NOTEND | '(' test ')' | value ('<' | '=' | '>') value\n"
            + "value: NUM(0,99999) | 'engine' | 'pc' | 'x' | 'y' | 'isr' | 'osr' | 'fill' | 'spent' | 'delay' | 'stall'"
            + " | 'input' | 'output'\n";

    private static final Map<String, Node> RULES = new HashMap<>();
    private static final Set<String> QUOTED = new HashSet<>();

    /** A part of a grammar: a terminal, a rule's name, a sequence, alternatives, or repetition. */
    private record Node(char kind, String text, List<Node> parts) {
    }

    /** A token of a text; its text is empty at the end. */
    record Token(char kind, String text, int position) {
    }

    /** What is still due: a stack of parts, the next one on top, and the number of open 'not' and '('. */
    private record Stack(Node top, Stack rest, int open) {
    }

    int code = 0;
    int position = -1;

    static {
        for (String line : GRAMMARS.split("\n")) {
            int colon = line.indexOf(':');
            RULES.put(line.substring(0, colon), new Parser(line.substring(colon + 1)).alternatives());
        }
    }

    /** Reads the EBNF of the document. */
    private static final class Parser {
        private final String text;
        private int at = 0;

        Parser(String text) {
            this.text = text;
        }

        private char peek() {
            while (at < text.length() && text.charAt(at) == ' ') {
                at++;
            }
            return at < text.length() ? text.charAt(at) : '$';
        }

        Node alternatives() {
            List<Node> parts = new ArrayList<>();
            parts.add(sequence());
            while (peek() == '|') {
                at++;
                parts.add(sequence());
            }
            return new Node('|', "", parts);
        }

        private Node sequence() {
            List<Node> parts = new ArrayList<>();
            while ("|)]$".indexOf(peek()) < 0) {
                parts.add(part());
            }
            return new Node(',', "", parts);
        }

        private Node part() {
            Node node = single();
            if (at < text.length() && text.charAt(at) == '*') {
                at++;
                return new Node('*', "", List.of(node));
            }
            return node;
        }

        private Node single() {
            char first = peek();
            if (first == '(' || first == '[') {
                at++;
                Node inner = alternatives();
                peek();
                at++;
                return first == '(' ? inner : new Node('?', "", List.of(inner));
            }
            if (first == '\'') {
                int end = text.indexOf('\'', at + 1);
                String quoted = text.substring(at + 1, end);
                at = end + 1;
                QUOTED.add(quoted);
                return new Node('q', quoted, List.of());
            }
            int start = at;
            while (at < text.length() && Character.isLetter(text.charAt(at))) {
                at++;
            }
            String name = text.substring(start, at);
            if (name.equals("NUM")) {
                int end = text.indexOf(')', at);
                String range = text.substring(at + 1, end);
                at = end + 1;
                if (at < text.length() && text.charAt(at) == '#') {
                    at++;
                    return new Node('#', range, List.of());
                }
                return new Node('n', range, List.of());
            }
            return new Node(Character.isUpperCase(name.charAt(0)) ? name.charAt(0) : 'r', name, List.of());
        }
    }

    static List<Token> tokens(String text) {
        List<Token> tokens = new ArrayList<>();
        java.util.regex.Matcher m = java.util.regex.Pattern.compile("[a-z]+|[0-9]+|[^ \n]").matcher(text);
        while (m.find()) {
            char first = m.group().charAt(0);
            char kind = first >= 'a' && first <= 'z' ? (QUOTED.contains(m.group()) ? 'q' : 'N')
                    : first >= '0' && first <= '9' ? 'n' : 'q';
            tokens.add(new Token(kind, m.group(), m.start()));
        }
        tokens.add(new Token('$', "", text.length()));
        return tokens;
    }

    /** Judges a text by the rule program or query: leaves the code (0 for none) and the position. */
    void judge(String rule, String text) {
        Set<Stack> stacks = new HashSet<>();
        stacks.add(new Stack(RULES.get(rule), null, 0));
        Set<Integer> engines = new HashSet<>();
        Set<String> labels = new HashSet<>();
        List<Token> references = new ArrayList<>();
        int instructions = 0;
        code = 0;
        position = -1;
        for (Token token : tokens(text)) {
            Set<Stack> heads = new HashSet<>();
            boolean mayEnd = false;
            for (Stack stack : stacks) {
                mayEnd |= expand(stack, heads);
            }
            if (token.kind == '$') {
                if (!mayEnd) {
                    error(1, token);
                    return;
                }
                break;
            }
            Set<Stack> next = new HashSet<>();
            int error = 9;
            for (Stack head : heads) {
                if (matches(head.top, token)) {
                    int found = errorOf(head, token, engines, labels, instructions);
                    error = Math.min(error, found == 0 ? 9 : found);
                    int open = head.open + (opens(head.top) ? 1 : 0) - (head.top.text.equals(")") ? 1 : 0);
                    next.add(new Stack(null, head.rest, open));
                    if (head.top.kind == 'N') {
                        references.add(token);
                    } else if (head.top.kind == 'L') {
                        labels.add(token.text);
                    } else if (head.top.kind == '#' && error == 9) {
                        engines.add(Integer.parseInt(token.text));
                    } else if (isInstruction(head.top)) {
                        instructions++;
                    }
                }
            }
            if (next.isEmpty()) {
                error(1, token);
                return;
            }
            if (error != 9) {
                error(error, token);
                return;
            }
            stacks = next;
        }
        for (Token reference : references) {
            if (!labels.contains(reference.text)) {
                error(5, reference);
                return;
            }
        }
    }

    private void error(int newCode, Token token) {
        code = newCode;
        position = token.position;
    }

    private static boolean opens(Node node) {
        return node.kind == 'q' && (node.text.equals("(") || node.text.equals("not"));
    }

    /** The first words of instructions are those that stand nowhere else in the grammar. */
    private static boolean isInstruction(Node node) {
        return node.kind == 'q'
                && " jmp wait in out push pull mov raise clear signal set load store ".contains(" " + node.text + " ");
    }

    private static boolean matches(Node terminal, Token token) {
        switch (terminal.kind) {
            case 'q':
                return token.kind == 'q' && token.text.equals(terminal.text);
            case 'N':
            case 'L':
                return token.kind == 'N';
            default:
                return token.kind == 'n';
        }
    }

    private static int errorOf(Stack head, Token token, Set<Integer> engines, Set<String> labels, int instructions) {
        Node terminal = head.top;
        if (terminal.kind == 'n' || terminal.kind == '#') {
            String[] range = terminal.text.split(",");
            java.math.BigInteger number = new java.math.BigInteger(token.text);
            if (number.compareTo(new java.math.BigInteger(range[0])) < 0
                    || number.compareTo(new java.math.BigInteger(range[1])) > 0) {
                return 2;
            }
            return terminal.kind == '#' && engines.contains(number.intValue()) ? 4 : 0;
        }
        if (terminal.kind == 'L') {
            return labels.contains(token.text) ? 4 : 0;
        }
        if (isInstruction(terminal) && instructions == 32 || inQuery(head) && opens(terminal) && head.open == 6) {
            return 3;
        }
        return 0;
    }

    /** Only in a query something stands under the rule factor; a program's 'not' is never followed by it. */
    private static boolean inQuery(Stack head) {
        return head.open >= 0 && head.rest != null && head.rest.top != null
                && (head.rest.top.text.equals("factor") || head.rest.top.text.equals("test"));
    }

    /** Adds the stacks with a terminal on top that this one leads to; returns whether the text may end. */
    private static boolean expand(Stack stack, Set<Stack> heads) {
        if (stack == null) {
            return true;
        }
        Node node = stack.top;
        int open = stack.open;
        if (node == null) {
            return stack.rest == null || expand(new Stack(stack.rest.top, stack.rest.rest, open), heads);
        }
        Stack rest = stack.rest;
        switch (node.kind) {
            case 'r':
                if (node.text.equals("NOTEND")) {
                    return false;
                }
                return expand(new Stack(RULES.get(node.text), rest, open), heads);
            case ',': {
                Stack pushed = rest;
                for (int i = node.parts.size() - 1; i >= 0; i--) {
                    pushed = new Stack(node.parts.get(i), pushed, open);
                }
                return pushed == null || expand(new Stack(pushed.top, pushed.rest, open), heads);
            }
            case '|': {
                boolean ends = false;
                for (Node part : node.parts) {
                    ends |= expand(new Stack(part, rest, open), heads);
                }
                return ends;
            }
            case '?':
            case '*': {
                Node again = node.parts.get(0);
                Stack more = node.kind == '*' ? new Stack(node, rest, open) : rest;
                heads.addAll(terminalHeads(new Stack(again, more, open)));
                return rest == null || expand(new Stack(rest.top, rest.rest, open), heads);
            }
            case 'N':
                if (node.text.equals("NOTEND")) {
                    return rest == null || expand(new Stack(rest.top, rest.rest, open - 1), heads);
                }
                heads.add(stack);
                return false;
            default:
                heads.add(stack);
                return false;
        }
    }

    private static Set<Stack> terminalHeads(Stack stack) {
        Set<Stack> heads = new HashSet<>();
        expand(stack, heads);
        return heads;
    }
}
