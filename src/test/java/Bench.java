/** One engine under test, with what is wrong about its answers counted for the whole test. */
final class Bench {
    interface Call {
        int answer();
    }

    /** Calls that bring a new engine to where a test begins. */
    interface Steps {
        void on(Bench b);
    }

    /** One call on whichever engine it is given. */
    interface Ask {
        int of(TemplateEngine engine);
    }

    static final String BAD_ARGUMENT = "IllegalArgumentException";
    static final String BAD_STATE = "IllegalStateException";
    static final String BAD_INDEX = "IndexOutOfBoundsException";
    static final String NO_ELEMENT = "NoSuchElementException";
    static final String BAD_DEPTH = "ArithmeticException";

    private static final int MOST_CALLS = 512;

    private static int wrong = 0;
    private static int asked = 0;
    private static String sentence = "";

    private final TemplateEngine engine = new TemplateEngine();
    private int calls = 0;

    static Bench after(Steps steps) {
        Bench b = new Bench();
        steps.on(b);
        return b;
    }

    /** The engine for one call: the document promises nothing behind the 512th, so no test may ask for more. */
    TemplateEngine engine() {
        calls++;
        if (calls == MOST_CALLS + 1) {
            tell("the test asks more than " + MOST_CALLS + " calls of one object");
        }
        return engine;
    }

    /** The document's words that the answers from here on are about. */
    static void sentence(String words) {
        sentence = "[" + words + "] ";
    }

    private static void tell(String fault) {
        wrong++;
        System.out.println(sentence + fault);
    }

    /** A throw is told by the exact class, so that a subclass from the Java library does not pass for it. */
    static String answerOf(Call call) {
        try {
            return Integer.toString(call.answer());
        } catch (RuntimeException e) {
            return e.getClass().getSimpleName();
        }
    }

    static void due(String what, Object got, Object want) {
        asked++;
        if (!want.toString().equals(got.toString())) {
            tell(what + " answered <" + got + ">, due is <" + want + ">");
        }
    }

    static void due(String what, Call call, Object want) {
        due(what, answerOf(call), want);
    }

    static void finish() {
        System.out.println(asked + " answers, " + wrong + " not as due");
        if (wrong != 0) {
            System.exit(1);
        }
    }

    void type(String text) {
        for (int i = 0; i < text.length(); i++) {
            engine().type(text.charAt(i));
        }
    }

    int text(String text) {
        type(text);
        return engine().text();
    }

    int list(int... elements) {
        int list = engine().list();
        for (int element : elements) {
            engine().add(list, element);
        }
        return list;
    }

    int put(int map, String name, int x) {
        type(name);
        return engine().put(map, x);
    }

    int compile(int k, String template) {
        type(template);
        return engine().compile(k);
    }

    String rendered() {
        StringBuilder text = new StringBuilder();
        int length = engine().count(3);
        for (int i = 0; i < length; i++) {
            text.append((char) engine().at(i));
        }
        return text.toString();
    }

    /** The text that is rendered, or the name of what is thrown. */
    String render(int k, int x) {
        String answer = answerOf(() -> engine().render(k, x));
        if (!Character.isDigit(answer.charAt(0))) {
            return answer;
        }
        due("the length that render answers", answer, engine().count(3));
        return rendered();
    }

    String render(String template, int x) {
        compile(0, template);
        return render(0, x);
    }

    static String times(int n, String text) {
        return text.repeat(n);
    }
}
