import java.util.Random;

/** Random runs of calls, the same each time, whose answers the Model tells. */
public final class ModelTest {
    private static final int RUNS = 10000;
    /** The document promises nothing of an object behind its 512th call. */
    private static final int MOST_CALLS = 512;
    private static final String[] NAMES = {"a", "b", "c", "a", "b", "c", "up", "else"};
    private static final String[] NOISE = {"{", "}", "{{", "}}", "}}}", "{{{", " ", "\"", ".", "../", "#if ", "else", "1", "zzzzzzzzz", "X", "&<"};

    private final Random random;
    private final TemplateEngine engine = new TemplateEngine();
    private final Model model = new Model();
    private final StringBuilder told = new StringBuilder();
    private int calls = 0;
    private int renders = 0;
    private boolean wrong = false;

    private ModelTest(int seed) {
        random = new Random(seed);
    }

    public static void main(String[] args) {
        int renders = 0;
        for (int seed = 0; seed < RUNS; seed++) {
            ModelTest run = new ModelTest(seed);
            run.makeData();
            run.makeTemplates();
            while (run.calls < MOST_CALLS && !run.wrong) {
                run.step();
            }
            renders += run.renders;
            Bench.due("run " + seed + (run.wrong ? run.told.toString() : ""), run.wrong, false);
            if (run.wrong) {
                break;
            }
        }
        Bench.due("many renders show something", renders > RUNS, true);
        Bench.finish();
    }

    private int pick(int bound) {
        return random.nextInt(bound);
    }

    private String pick(String... words) {
        return words[pick(words.length)];
    }

    private void call(String name, int a, int b) {
        if (calls == MOST_CALLS) {
            return;
        }
        calls++;
        String got = Bench.answerOf(() -> ask(name, a, b));
        String want = model.answer(name, a, b);
        renders += name.equals("render") && Character.isDigit(got.charAt(0)) && !got.equals("0") ? 1 : 0;
        told.append("\n  ").append(name).append('(').append(a).append(", ").append(b).append(") ").append(got);
        if (!got.equals(want) && !wrong) {
            wrong = true;
            told.append(", due is ").append(want);
        }
    }

    /** What the engine must answer, too; the Model is asked, so that it is no call of the engine. */
    private int known(String name, int a) {
        return Integer.parseInt(model.answer(name, a, 0));
    }

    private int ask(String name, int a, int b) {
        switch (name) {
            case "type":
                return engine.type(a);
            case "number":
                return engine.number(a);
            case "text":
                return engine.text();
            case "list":
                return engine.list();
            case "map":
                return engine.map();
            case "add":
                return engine.add(a, b);
            case "put":
                return engine.put(a, b);
            case "compile":
                return engine.compile(a);
            case "errorAt":
                return engine.errorAt();
            case "render":
                return engine.render(a, b);
            case "at":
                return engine.at(a);
            case "kind":
                return engine.kind(a);
            case "size":
                return engine.size(a);
            default:
                return engine.count(a);
        }
    }

    private void type(String text) {
        for (int i = 0; i < text.length(); i++) {
            call("type", text.charAt(i), 0);
        }
    }

    private void makeData() {
        for (int i = 0; i < 6 + pick(8); i++) {
            makeOne();
        }
        for (int i = 0; i < 35; i++) {
            hold();
        }
    }

    /** Most runs have every TEMPLATE early: without them there is little to see of partials. */
    private void makeTemplates() {
        for (int k = pick(6) == 0 ? pick(4) : 0; k < 4; k++) {
            type(template(1 + pick(2)));
            call("compile", k, 0);
        }
    }

    private void makeOne() {
        switch (pick(8)) {
            case 0:
            case 1:
                call("number", pick(4) == 0 ? random.nextInt() : pick(4) - 1, 0);
                break;
            case 2:
                type(pick("", "<\"&>", "abc", "0", "zaZ{", Bench.times(30, "<a")));
                call("text", 0, 0);
                break;
            case 3:
            case 4:
            case 5:
                call("list", 0, 0);
                break;
            default:
                call("map", 0, 0);
                break;
        }
    }

    private int someData() {
        int made = known("count", 0);
        return pick(30) == 0 ? pick(70) - 2 : made == 0 ? 0 : pick(made);
    }

    private void hold() {
        int whole = someData();
        boolean isMap = whole >= 0 && whole < known("count", 0) && known("kind", whole) == 3;
        if (isMap) {
            type(pick(NAMES));
        }
        call(isMap || pick(20) == 0 ? "put" : "add", whole, someData());
    }

    private void step() {
        switch (pick(16)) {
            case 0:
                makeOne();
                break;
            case 1:
            case 2:
                hold();
                break;
            case 3:
                String text = template(pick(2));
                type(text.length() > 200 - known("count", 1) && pick(4) > 0 ? "{{> " + pick("a", "b", "c", "d") + "}}" : text);
                call("compile", pick(40) == 0 ? pick(9) - 3 : pick(4), 0);
                call("errorAt", 0, 0);
                break;
            case 4:
                callEvery();
                break;
            default:
                call("render", pick(40) == 0 ? pick(9) - 3 : pick(4), someData());
                compareRendered();
                break;
        }
    }

    private void callEvery() {
        for (int what = -1; what <= 6; what++) {
            call("count", what, 0);
        }
        int x = someData();
        call("kind", x, 0);
        call("size", x, 0);
        call("type", pick(20) == 0 ? pick(3) * 128 - 128 : 'a' + pick(26), 0);
    }

    private void compareRendered() {
        int length = known("count", 3);
        for (int i = Math.max(-1, length - 3); i <= length; i++) {
            call("at", i, 0);
        }
        call("at", pick(length + 1), 0);
        call("at", pick(length + 1), 0);
    }

    private String template(int depth) {
        StringBuilder text = new StringBuilder();
        for (int i = pick(depth == 0 ? 4 : 2); i >= 0; i--) {
            text.append(tag(depth));
            text.append(pick(3) == 0 ? pick(";", "-", "<", "}", "{ ") : "");
        }
        if (pick(20) == 0) {
            text.insert(pick(text.length() + 1), pick(NOISE));
        }
        return text.toString();
    }

    private String tag(int depth) {
        int sort = pick(10);
        if (sort < 4 && depth < 2 + pick(4)) {
            String block = pick("if", "each", "each", "with");
            return "{{#" + block + " " + expression() + "}}" + template(depth + 1) + (pick(2) == 0 ? "{{else}}" + template(depth + 2) : "")
                    + "{{/" + (pick(60) == 0 ? "if" : block) + "}}";
        }
        if (sort == 4) {
            return "{{> " + pick("a", "b", "c", "d") + "}}";
        }
        if (sort == 5) {
            return "{{!" + pick("", "x", "{{") + "}}";
        }
        return sort == 6 ? "{{{" + expression() + "}}}" : "{{" + expression() + "}}";
    }

    private String expression() {
        switch (pick(4)) {
            case 0:
                return pick("up", "len", "not") + " " + operand();
            case 1:
                return pick("add", "eq", "at") + " " + operand() + " " + operand();
            default:
                return operand();
        }
    }

    private String operand() {
        switch (pick(9)) {
            case 0:
                return pick("0", "1", "2", "007", "99999");
            case 1:
                return pick("\"\"", "\"a b\"", "\"1\"", "\"<{&\"");
            case 2:
                return pick("@index", "@first");
            case 3:
            case 4:
                return pick("", "", "../", "../../") + "this";
            default:
                return pick("", "", "../", "../../") + pick(NAMES) + (pick(3) == 0 ? "." + pick("0", "1", "2", "a", "this") : "");
        }
    }
}
