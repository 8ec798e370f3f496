import java.util.ArrayList;
import java.util.LinkedHashMap;
import java.util.List;
import java.util.Map;
import java.util.NoSuchElementException;
import java.util.regex.Matcher;
import java.util.regex.Pattern;

/** What the document says, done a second time with the whole Java library and from other ideas than the class has. */
final class Model {
    private static final String NAME = "[a-z]{1,8}";
    private static final String PATH = "(?:@index|@first|(?:\\.\\./)*(?:this|(?!this(?![a-z]))" + NAME + "(?:\\.(?:" + NAME + "|[0-9]))*))";
    private static final String OPERAND = "(?:" + PATH + "|[0-9]{1,5}|\"[^\"}]*\")";
    private static final Pattern EXPRESSION = Pattern.compile(
            "(" + OPERAND + ")|(up|len|not) (" + OPERAND + ")|(add|eq|at) (" + OPERAND + ") (" + OPERAND + ")");
    private static final Pattern BEGIN = Pattern.compile("#(if|each|with) (.*)", Pattern.DOTALL);
    private static final Pattern END = Pattern.compile("/(if|each|with)");
    private static final Pattern PARTIAL = Pattern.compile("> ([a-d])");

    /** A template is a row of tokens; a render finds the ends of its blocks anew each time. */
    private record Token(String sort, String text) {
    }

    private static final class Fault extends RuntimeException {
        private static final long serialVersionUID = 1;
        private final int place;

        private Fault(int place) {
            this.place = place;
        }
    }

    private final List<Object> data = new ArrayList<>();
    private String line = "";
    private final List<List<Token>> templates = new ArrayList<>();
    private int fault = -1;
    private String rendered = "";
    private int tagsRendered = 0;
    private int threw = 0;

    private List<Object> contexts;
    private StringBuilder result;
    private int tags;

    Model() {
        for (int k = 0; k < 4; k++) {
            templates.add(null);
        }
    }

    /** The answer of a call as Bench.answerOf tells it. */
    String answer(String call, int a, int b) {
        try {
            return Integer.toString(run(call, a, b));
        } catch (RuntimeException e) {
            threw++;
            return e.getClass().getSimpleName();
        }
    }

    private int run(String call, int a, int b) {
        switch (call) {
            case "type":
                return type(a);
            case "number":
                return make(a);
            case "text":
                int made = make(line);
                line = "";
                return made;
            case "list":
                return make(new ArrayList<>());
            case "map":
                return make(new LinkedHashMap<>());
            case "add":
                return add(a, b);
            case "put":
                return put(a, b);
            case "compile":
                return compile(a);
            case "errorAt":
                return fault;
            case "render":
                return render(a, b);
            case "at":
                if (a < 0 || a >= rendered.length()) {
                    throw new IndexOutOfBoundsException();
                }
                return rendered.charAt(a);
            case "kind":
                Object x = get(a);
                return x instanceof Integer ? 0 : x instanceof String ? 1 : x instanceof List ? 2 : 3;
            case "size":
                return length(get(a));
            default:
                return count(a);
        }
    }

    private int count(int what) {
        int there = 0;
        for (List<Token> template : templates) {
            there += template == null ? 0 : 1;
        }
        int[] counts = {data.size(), line.length(), there, rendered.length(), tagsRendered, threw};
        return what < 0 || what >= counts.length ? -1 : counts[what];
    }

    private int type(int c) {
        if (c < 0 || c > 127) {
            throw new IllegalArgumentException();
        }
        refuse(line.length() == 200);
        line += (char) c;
        return line.length();
    }

    private static void refuse(boolean full) {
        if (full) {
            throw new IllegalStateException();
        }
    }

    private int make(Object x) {
        refuse(data.size() == 60);
        data.add(x);
        return data.size() - 1;
    }

    private Object get(int x) {
        if (x < 0 || x >= data.size()) {
            throw new NoSuchElementException();
        }
        return data.get(x);
    }

    private static List<Object> partsOf(Object x) {
        List<Object> parts = new ArrayList<>();
        if (x instanceof List<?> list) {
            parts.addAll(list);
        } else if (x instanceof Map<?, ?> map) {
            parts.addAll(map.values());
        }
        return parts;
    }

    private static boolean holds(Object whole, Object sought) {
        List<Object> found = new ArrayList<>();
        found.add(whole);
        for (int i = 0; i < found.size(); i++) {
            for (Object part : partsOf(found.get(i))) {
                if (found.stream().noneMatch(known -> known == part)) {
                    found.add(part);
                }
            }
        }
        return found.stream().anyMatch(known -> known == sought);
    }

    @SuppressWarnings("unchecked")
    private int add(int l, int x) {
        Object list = get(l);
        Object element = get(x);
        if (!(list instanceof List) || holds(element, list)) {
            throw new IllegalArgumentException();
        }
        refuse(((List<Object>) list).size() == 10);
        ((List<Object>) list).add(element);
        return ((List<Object>) list).size();
    }

    @SuppressWarnings("unchecked")
    private int put(int m, int x) {
        Object map = get(m);
        Object entry = get(x);
        if (!(map instanceof Map) || holds(entry, map) || !line.matches(NAME)) {
            throw new IllegalArgumentException();
        }
        Map<String, Object> entries = (Map<String, Object>) map;
        refuse(entries.size() == 10 && !entries.containsKey(line));
        entries.put(line, entry);
        line = "";
        return entries.size();
    }

    private int compile(int k) {
        if (k < 0 || k > 3) {
            throw new IndexOutOfBoundsException();
        }
        String source = line;
        line = "";
        try {
            List<Token> tokens = takeApart(source);
            fault = -1;
            templates.set(k, tokens);
            return (int) tokens.stream().filter(token -> !token.sort.equals("plain")).count();
        } catch (Fault found) {
            fault = found.place;
        }
        throw new IllegalArgumentException();
    }

    private static List<Token> takeApart(String source) {
        List<Token> tokens = new ArrayList<>();
        List<String> open = new ArrayList<>();
        List<Integer> places = new ArrayList<>();
        int from = 0;
        for (int begin = source.indexOf("{{"); begin >= 0; begin = source.indexOf("{{", from)) {
            tokens.add(new Token("plain", source.substring(from, begin)));
            String closing = source.startsWith("{{{", begin) ? "}}}" : "}}";
            int inside = begin + closing.length();
            int end = source.indexOf(closing, inside);
            if (end < 0) {
                throw new Fault(begin);
            }
            Token token = tokenOf(source.substring(inside, end), closing.length() == 3, begin);
            nest(token, open, places, begin);
            tokens.add(token);
            from = end + closing.length();
        }
        tokens.add(new Token("plain", source.substring(from)));
        if (!places.isEmpty()) {
            throw new Fault(places.get(places.size() - 1));
        }
        return tokens;
    }

    private static Token tokenOf(String inside, boolean raw, int begin) {
        Matcher block = BEGIN.matcher(inside);
        Matcher end = END.matcher(inside);
        Matcher partial = PARTIAL.matcher(inside);
        if (!raw && inside.startsWith("!")) {
            return new Token("remark", "");
        }
        if (!raw && inside.equals("else")) {
            return new Token("else", "");
        }
        if (!raw && end.matches()) {
            return new Token("/" + end.group(1), "");
        }
        if (!raw && partial.matches()) {
            return new Token("partial", partial.group(1));
        }
        boolean begins = !raw && block.matches();
        String expression = begins ? block.group(2) : inside;
        if (!EXPRESSION.matcher(expression).matches()) {
            throw new Fault(begin);
        }
        return new Token(begins ? "#" + block.group(1) : raw ? "raw" : "shown", expression);
    }

    private static void nest(Token token, List<String> open, List<Integer> places, int begin) {
        int top = open.size() - 1;
        boolean fits = true;
        if (token.sort.startsWith("#")) {
            fits = open.size() < 4;
            open.add(token.sort.substring(1));
            places.add(begin);
        } else if (token.sort.equals("else")) {
            fits = top >= 0 && !open.get(top).endsWith("+");
            if (fits) {
                open.set(top, open.get(top) + "+");
            }
        } else if (token.sort.startsWith("/")) {
            fits = top >= 0 && open.get(top).replace("+", "").equals(token.sort.substring(1));
            if (fits) {
                open.remove(top);
                places.remove(top);
            }
        }
        if (!fits) {
            throw new Fault(begin);
        }
    }

    private int render(int k, int x) {
        if (k < 0 || k > 3) {
            throw new IndexOutOfBoundsException();
        }
        if (templates.get(k) == null) {
            throw new NoSuchElementException();
        }
        contexts = new ArrayList<>(List.of(get(x)));
        result = new StringBuilder();
        tags = 0;
        show(templates.get(k), null, 1);
        rendered = result.toString();
        tagsRendered = tags;
        return rendered.length();
    }

    private void write(String text) {
        result.append(text);
        refuse(result.length() > 400);
    }

    /** Shows a row of tokens whose blocks all end in it. */
    private void show(List<Token> tokens, Integer turn, int underWay) {
        for (int i = 0; i < tokens.size(); i++) {
            Token token = tokens.get(i);
            if (token.sort.equals("plain")) {
                write(token.text);
                continue;
            }
            tags++;
            refuse(tags > 600);
            if (token.sort.equals("partial")) {
                List<Token> partial = templates.get(token.text.charAt(0) - 'a');
                if (partial == null) {
                    throw new NoSuchElementException();
                }
                if (underWay == 3) {
                    throw new ArithmeticException();
                }
                show(partial, null, underWay + 1);
            } else if (token.sort.startsWith("#")) {
                i = showBlock(tokens, i, turn, underWay);
            } else if (!token.sort.equals("remark")) {
                String text = raw(value(token.text, turn));
                write(token.sort.equals("raw") ? text
                        : text.replace("&", "&amp;").replace("<", "&lt;").replace(">", "&gt;").replace("\"", "&quot;"));
            }
        }
    }

    /** The place of the block's end. */
    private int showBlock(List<Token> tokens, int begin, Integer turn, int underWay) {
        int end = begin;
        int middle = -1;
        int depth = 1;
        while (depth > 0) {
            end++;
            String sort = tokens.get(end).sort;
            depth += sort.startsWith("#") ? 1 : sort.startsWith("/") ? -1 : 0;
            if (depth == 1 && sort.equals("else")) {
                middle = end;
            }
        }
        List<Token> body = tokens.subList(begin + 1, middle < 0 ? end : middle);
        List<Token> other = middle < 0 ? List.of() : tokens.subList(middle + 1, end);
        Object value = value(tokens.get(begin).text, turn);
        String sort = tokens.get(begin).sort;
        if (sort.equals("#if")) {
            show(isFalse(value) ? other : body, turn, underWay);
        } else if (sort.equals("#with") && value != null) {
            showIn(body, value, turn, underWay);
        } else if (sort.equals("#each") && !partsOf(value).isEmpty()) {
            int number = 0;
            for (Object part : partsOf(value)) {
                showIn(body, part, number, underWay);
                number++;
            }
        } else {
            show(other, turn, underWay);
        }
        return end;
    }

    private void showIn(List<Token> body, Object context, Integer turn, int underWay) {
        contexts.add(context);
        show(body, turn, underWay);
        contexts.remove(contexts.size() - 1);
    }

    private Object value(String expression, Integer turn) {
        Matcher parts = EXPRESSION.matcher(expression);
        if (!parts.matches()) {
            throw new AssertionError(expression);
        }
        if (parts.group(1) != null) {
            return operand(parts.group(1), turn);
        }
        if (parts.group(2) != null) {
            Object only = operand(parts.group(3), turn);
            switch (parts.group(2)) {
                case "up":
                    String text = raw(only);
                    refuse(text.length() > 400);
                    return text.toUpperCase(java.util.Locale.ROOT);
                case "len":
                    return length(only);
                default:
                    return isFalse(only) ? 1 : 0;
            }
        }
        Object first = operand(parts.group(5), turn);
        Object second = operand(parts.group(6), turn);
        switch (parts.group(4)) {
            case "add":
                return first instanceof Integer a && second instanceof Integer b ? a + b : null;
            case "eq":
                refuse(raw(first).length() > 400 || raw(second).length() > 400);
                return raw(first).equals(raw(second)) ? 1 : 0;
            default:
                return first instanceof List<?> list && second instanceof Integer i && i >= 0 && i < list.size() ? list.get(i) : null;
        }
    }

    private Object operand(String operand, Integer turn) {
        if (operand.startsWith("\"")) {
            return operand.substring(1, operand.length() - 1);
        }
        if (Character.isDigit(operand.charAt(0))) {
            return Integer.parseInt(operand);
        }
        if (operand.equals("@index")) {
            return turn;
        }
        if (operand.equals("@first")) {
            return turn == null ? null : turn == 0 ? (Integer) 1 : (Integer) 0;
        }
        int here = contexts.size() - 1;
        String rest = operand;
        while (rest.startsWith("../")) {
            here--;
            rest = rest.substring(3);
        }
        Object value = here < 0 ? null : contexts.get(here);
        if (rest.equals("this")) {
            return value;
        }
        for (String step : rest.split("\\.")) {
            if (Character.isDigit(step.charAt(0))) {
                int k = step.charAt(0) - '0';
                value = value instanceof List<?> list && k < list.size() ? list.get(k) : null;
            } else {
                value = value instanceof Map<?, ?> map ? map.get(step) : null;
            }
        }
        return value;
    }

    private static int length(Object x) {
        return x == null ? 0 : x instanceof Integer || x instanceof String ? x.toString().length() : partsOf(x).size();
    }

    private static boolean isFalse(Object x) {
        return x == null || x.equals(0) || x.equals("") || x instanceof List<?> list && list.isEmpty();
    }

    /** Cut off where it is too long for any use. */
    private static String raw(Object x) {
        if (x == null) {
            return "";
        }
        if (x instanceof Map) {
            return "[map]";
        }
        if (!(x instanceof List<?> list)) {
            return x.toString();
        }
        StringBuilder text = new StringBuilder();
        for (int i = 0; i < list.size() && text.length() <= 400; i++) {
            text.append(i > 0 ? "," : "").append(raw(list.get(i)));
        }
        return text.toString();
    }
}
