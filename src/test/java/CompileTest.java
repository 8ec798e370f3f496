/** The sentences that name a boundary about taking templates apart: of 'Terms', and of the promises 9 and 10. */
public final class CompileTest {
    private static final String[] SORTS = {"if", "each", "with"};

    public static void main(String[] args) {
        templatesThereAre();
        tagsOfATemplate();
        lineAfterCompile();
        templateFromBefore();
        errorAtBeforeAndAfter();
        errorAtBehindAWrongTemplate();
        farthestFault();
        beginOfATag();
        endOfATag();
        endOfARawTag();
        blanks();
        rawTagsAreValues();
        remarks();
        blocksBegin();
        elseOnce();
        endsFit();
        partialLetters();
        operandsOfHelpers();
        helperAlone();
        digits();
        quoted();
        parentSteps();
        namesInPaths();
        stepsOfPaths();
        firstStepOfPaths();
        wordsOfPaths();
        fourBlocksDeep();
        fourBlocksOfMixedSorts();
        firstTagWithAFault();
        lastBlockWithoutEnd();
        Bench.finish();
    }

    private static String begin(String sort) {
        return "{{#" + sort + " a}}";
    }

    private static String end(String sort) {
        return "{{/" + sort + "}}";
    }

    private static void templatesThereAre() {
        Bench.sentence("IndexOutOfBoundsException: no such k.");
        for (int k = -2; k <= 6; k++) {
            int template = k;
            boolean there = k >= 0 && k <= 3;
            Bench b = Bench.after(to -> to.type("{{a}}"));
            Bench.due("compile(" + k + ")", () -> b.engine().compile(template), there ? 1 : Bench.BAD_INDEX);
            Bench.due("TEMPLATES then", () -> b.engine().count(2), there ? 1 : 0);
            Bench.due("THE LINE then", () -> b.engine().count(1), there ? 0 : 5);
        }
        Bench.due("the lowest", () -> new TemplateEngine().compile(Integer.MIN_VALUE), Bench.BAD_INDEX);
        Bench.due("the highest", () -> new TemplateEngine().compile(Integer.MAX_VALUE), Bench.BAD_INDEX);
        Bench.sentence("A TEMPLATE 0 .. 3 is none at first.");
        Bench b = new Bench();
        b.engine().number(1);
        for (int k = 0; k < 4; k++) {
            Bench.due("TEMPLATES before", () -> b.engine().count(2), k);
            Bench.due("none yet", b.render(k, 0), Bench.NO_ELEMENT);
            b.compile(k, "T" + k);
            Bench.due("it is there", b.render(k, 0), "T" + k);
            Bench.due("the first stays", b.render(0, 0), "T0");
        }
    }

    private static void tagsOfATemplate() {
        Bench.sentence("how many TAGS it has.");
        Bench b = new Bench();
        Bench.due("an empty LINE", b.compile(0, ""), 0);
        Bench.due("one character", b.compile(0, "{"), 0);
        Bench.due("200 plain characters", new Bench().compile(0, Bench.times(200, "}")), 0);
        Bench.due("one", b.compile(0, "{{a}}"), 1);
        Bench.due("39 and plain ones", new Bench().compile(0, Bench.times(39, "{{a}}") + "12345"), 39);
        Bench.due("40, as many as THE LINE holds", new Bench().compile(0, Bench.times(40, "{{a}}")), 40);
        Bench.due("else and ends are TAGS", b.compile(0, "{{#if a}}{{else}}{{/if}}"), 3);
        Bench.due("remarks and partials are TAGS", b.compile(0, "{{!}}{{> d}}"), 2);
    }

    private static void lineAfterCompile() {
        Bench.sentence("THE LINE becomes TEMPLATE k 0 .. 3, in place of any other, and is empty then");
        Bench b = new Bench();
        b.engine().number(1);
        b.compile(0, "old");
        Bench.due("THE LINE", () -> b.engine().count(1), 0);
        b.compile(1, "other");
        Bench.due("an empty LINE in its place", () -> b.engine().compile(0), 0);
        Bench.due("TEMPLATES", () -> b.engine().count(2), 2);
        Bench.due("it is empty now", b.render(0, 0), "");
        Bench.due("the other is not", b.render(1, 0), "other");
        Bench.due("typed then", () -> b.engine().type('x'), 1);
        Bench.due("it is not what is typed later", b.render(0, 0), "");
    }

    private static void templateFromBefore() {
        Bench.sentence("the TEMPLATE from before stays");
        for (String faulty : new String[] {"{{", "{{A}}", "{{#if a}}", "x{{/if}}"}) {
            Bench b = new Bench();
            b.engine().number(5);
            b.compile(2, "<{{this}}>");
            b.type(faulty);
            Bench.due("a FAULT", () -> b.engine().compile(2), Bench.BAD_ARGUMENT);
            Bench.due("TEMPLATES", () -> b.engine().count(2), 1);
            Bench.due("the TEMPLATE", b.render(2, 0), "<5>");
            b.type(faulty);
            Bench.due("a FAULT where none was", () -> b.engine().compile(3), Bench.BAD_ARGUMENT);
            Bench.due("TEMPLATES", () -> b.engine().count(2), 1);
            Bench.due("none there", b.render(3, 0), Bench.NO_ELEMENT);
        }
    }

    private static void errorAtBeforeAndAfter() {
        Bench.sentence("The place of the FAULT that compile found last; -1 if it found none the last time");
        Bench b = new Bench();
        Bench.due("before", () -> b.engine().errorAt(), -1);
        for (int place : new int[] {0, 1, 7, 0}) {
            b.type(Bench.times(place, "a") + "{{");
            Bench.due("a FAULT", () -> b.engine().compile(0), Bench.BAD_ARGUMENT);
            Bench.due("its place", () -> b.engine().errorAt(), place);
            Bench.due("its place, asked again", () -> b.engine().errorAt(), place);
        }
        b.engine().number(1);
        b.type("ab");
        b.engine().text();
        Bench.due("no other call changes it", () -> b.engine().errorAt(), 0);
        b.compile(1, "fine");
        Bench.due("none found", () -> b.engine().errorAt(), -1);
        Bench.answerOf(() -> b.engine().render(0, 0));
        Bench.due("a render that throws is no compile", () -> b.engine().errorAt(), -1);
    }

    private static void errorAtBehindAWrongTemplate() {
        Bench.sentence("the last time that it threw no IndexOutOfBoundsException, or before.");
        Bench b = new Bench();
        Bench.due("compile(4)", () -> b.engine().compile(4), Bench.BAD_INDEX);
        Bench.due("none before", () -> b.engine().errorAt(), -1);
        b.type("a{{");
        Bench.due("compile(-1) with a FAULT", () -> b.engine().compile(-1), Bench.BAD_INDEX);
        Bench.due("none before", () -> b.engine().errorAt(), -1);
        Bench.due("THE LINE stays", () -> b.engine().count(1), 3);
        Bench.due("compile(0)", () -> b.engine().compile(0), Bench.BAD_ARGUMENT);
        Bench.due("the FAULT", () -> b.engine().errorAt(), 1);
        Bench.due("compile(4) without a FAULT", () -> b.engine().compile(4), Bench.BAD_INDEX);
        Bench.due("the FAULT from before", () -> b.engine().errorAt(), 1);
        b.type("abc{{");
        Bench.due("compile(4) with a FAULT", () -> b.engine().compile(4), Bench.BAD_INDEX);
        Bench.due("the FAULT from before", () -> b.engine().errorAt(), 1);
        Bench.due("compile(3)", () -> b.engine().compile(3), Bench.BAD_ARGUMENT);
        Bench.due("the FAULT", () -> b.engine().errorAt(), 3);
        Bench.due("compile(3) of an empty LINE", () -> b.engine().compile(3), 0);
        Bench.due("none", () -> b.engine().errorAt(), -1);
    }

    private static void farthestFault() {
        Bench.sentence("it has a FAULT (THE LINE is empty then, too, and errorAt set).");
        Faults.fault(Bench.times(198, "a") + "{{", 198);
        Faults.fault(Bench.times(199, "a") + "{", Faults.NONE);
        Faults.fault(Bench.times(195, "a") + "{{A}}", 195);
        Faults.fault(Bench.times(195, "a") + "{{a}}", Faults.NONE);
        Faults.fault(Bench.times(191, "a") + "{{#if a}}", 191);
        Faults.fault("{{" + Bench.times(198, "a"), 0);
    }

    private static void beginOfATag() {
        Bench.sentence("A TAG begins at the first {{ that is met, from left to right");
        Faults.faultless("{", "{a", "a{", "{ {", "{a{a{", "}", "}}", "}}}}", "{}", "{}{");
        Faults.faultyAtBegin("{{", "{{{", "{{{{", "{{{{{", "{{{{a}}", "{{{{a}}}", "{{{{a}}}}", "{{{{a}}}}}", "{{a{{a}}", "{{{{}}}}");
        Faults.fault("{ {{", 2);
        Faults.fault("{a{{", 2);
        Faults.fault("}}{{", 2);
        shows("{{{n}}}{{n}}{{{n}}}", "777");
        shows("{ {{n}}{", "{ 7{");
        shows("{a{{n}}", "{a7");
        shows("{{!{{}}{{n}}", "7");
        shows("{{\"{{\"}}{{\"{{n\"}}", "{{{{n");
    }

    private static void endOfATag() {
        Bench.sentence("and ends with the next }}");
        Faults.faultyAtBegin("{{a", "{{a}", "{{a} }", "{{a}a}", "{{}", "{{}}", "{{!", "{{!}", "{{! } }", "{{> a}", "{{#if a}", "{{\"a\"}");
        shows("{{n}}}", "7}");
        shows("{{n}}}}", "7}}");
        shows("{{n}}}}}{{n}}", "7}}}7");
        shows("{{!}}}}", "}}");
        shows("{{!{{{n}}}", "}");
        shows("}}{{n}}", "}}7");
    }

    private static void endOfARawTag() {
        Bench.sentence("(if it begins with {{{: with the next }}})");
        Faults.faultyAtBegin("{{{a", "{{{a}", "{{{a}}", "{{{a}} }", "{{{a} }}", "{{{}", "{{{}}", "{{{}}}", "{{{a}}{{a}}", "{{{a}}b}}}");
        shows("{{{n}}}", "7");
        shows("{{{n}}}}", "7}");
        shows("{{{n}}}}}}", "7}}}");
        Faults.fault("{{{a}}}{{{a}}", 7);
        Faults.fault("{{{a}}{{{a}}}", 0);
    }

    private static void blanks() {
        Bench.sentence("(all blanks as written, just one each, no others)");
        String[] whole = {"#if a", "#each a", "#with a", "> a", "up a", "len a", "not a", "add a a", "eq a a", "at a a"};
        for (String inside : whole) {
            String end = inside.startsWith("#") ? "{{/" + inside.substring(1, inside.length() - 2) + "}}" : "";
            Faults.fault("{{" + inside + "}}" + end, Faults.NONE);
            Faults.faultyAtBegin("{{ " + inside + "}}" + end, "{{" + inside + " }}" + end);
            for (int blank = inside.indexOf(' '); blank >= 0; blank = inside.indexOf(' ', blank + 1)) {
                String left = inside.substring(0, blank);
                String right = inside.substring(blank + 1);
                Faults.faultyAtBegin("{{" + left + "  " + right + "}}" + end, "{{" + left + "\t" + right + "}}" + end,
                        "{{" + left + "\n" + right + "}}" + end);
            }
        }
        for (String inside : new String[] {"a", "this", "@index", "@first", "../a", "a.b", "1", "\"a\"", "> a", "else", "/if"}) {
            Faults.faultyAtBegin("{{ " + inside + "}}", "{{" + inside + " }}", "{{{ " + inside + "}}}", "{{{" + inside + " }}}");
        }
        Faults.faultyAtBegin("{{>a}}", "{{#ifa}}", "{{#eacha}}", "{{#witha}}", "{{# if a}}", "{{add aa}}", "{{ }}", "{{{ }}}", "{{ !}}",
                "{{a .b}}", "{{a. b}}", "{{../ a}}", "{{.. /a}}", "{{@ index}}", "{{1 2}}", "{{\"a\" }}");
        Faults.fault("{{#if a}}{{ else}}{{/if}}", 9);
        Faults.fault("{{#if a}}{{else }}{{/if}}", 9);
        Faults.fault("{{#if a}}{{/ if}}", 9);
        Faults.fault("{{#if a}}{{/if }}", 9);
        shows("{{! }}{{!  a  }}{{\" \"}}{{\"  a  \"}}.", "   a  .");
    }

    private static void rawTagsAreValues() {
        Bench.sentence("{{{ }}}: a VALUE, shown raw.");
        Faults.faultless("{{{a}}}", "{{{up a}}}", "{{{add 1 2}}}", "{{{else}}}", "{{{\"!\"}}}");
        Faults.faultyAtBegin("{{{!}}}", "{{{!a}}}", "{{{#if a}}}", "{{{#each a}}}", "{{{#with a}}}", "{{{/if}}}", "{{{> a}}}", "{{{}}}");
        Faults.fault("{{#if a}}{{{/if}}}{{/if}}", 9);
    }

    private static void remarks() {
        Bench.sentence("!...: a remark, anything.");
        Faults.faultless("{{!}}", "{{!!}}", "{{! }}", "{{!}}}}", "{{!}a}}", "{{!\"}}", "{{!{}}", "{{!{{}}", "{{!{{{}}", "{{!\0\177}}",
                "{{!#if a}}", "{{!/if}}", "{{!else}}", "{{!> e}}", "{{!" + Bench.times(195, "x") + "}}");
        Faults.faultyAtBegin("{{a!}}", "{{ !}}", "{{!");
    }

    private static void blocksBegin() {
        Bench.sentence("#if EXPR, #each EXPR, #with EXPR: a block begins.");
        for (String sort : SORTS) {
            Faults.fault(begin(sort) + end(sort), Faults.NONE);
            Faults.fault("{{#" + sort + " " + sort + "}}" + end(sort), Faults.NONE);
            Faults.faultyAtBegin("{{#" + sort + "}}" + end(sort), "{{#" + sort + " }}" + end(sort), "{{#" + sort + " a b}}" + end(sort),
                    "{{#" + sort + "s a}}" + end(sort), "{{#" + sort.toUpperCase(java.util.Locale.ROOT) + " a}}" + end(sort),
                    "{{##" + sort + " a}}" + end(sort), "{{" + sort + " a}}" + end(sort), "{{{#" + sort + " a}}}" + end(sort));
            Faults.fault("{{" + sort + "}}", Faults.NONE);
        }
        Faults.faultyAtBegin("{{#}}", "{{# }}", "{{#a}}", "{{# a}}", "{{#up a}}", "{{#i a}}", "{{#unless a}}{{/unless}}");
    }

    private static void elseOnce() {
        Bench.sentence("else: the other part of the innermost block begins (at most once in it).");
        for (String sort : SORTS) {
            int wide = begin(sort).length();
            Faults.faultless(begin(sort) + end(sort), begin(sort) + "{{else}}" + end(sort));
            Faults.fault(begin(sort) + "{{else}}{{else}}" + end(sort), wide + 8);
            Faults.fault(begin(sort) + "{{else}}a{{else}}{{else}}" + end(sort), wide + 9);
            Faults.fault("{{else}}" + begin(sort) + end(sort), 0);
            Faults.fault(begin(sort) + end(sort) + "{{else}}", wide + end(sort).length());
            for (String inner : SORTS) {
                String whole = begin(inner) + "{{else}}" + end(inner);
                Faults.faultless(begin(sort) + whole + "{{else}}" + whole + end(sort));
                Faults.fault(begin(sort) + whole + "{{else}}" + whole + "{{else}}" + end(sort), wide + 2 * whole.length() + 8);
            }
        }
        Faults.faultyAtBegin("{{else}}", "{{#else}}", "{{/else}}", "{{#else a}}");
        Faults.faultless("{{els}}", "{{elsea}}", "{{else.a}}", "{{../else}}", "{{up else}}");
    }

    private static void endsFit() {
        Bench.sentence("/if, /each, /with: the innermost block, which is of this sort, ends.");
        for (String sort : SORTS) {
            int wide = begin(sort).length();
            Faults.faultyAtBegin(end(sort), end(sort) + begin(sort));
            Faults.fault(begin(sort) + end(sort) + end(sort), wide + end(sort).length());
            for (String other : SORTS) {
                Faults.fault(begin(sort) + end(other), sort.equals(other) ? Faults.NONE : wide);
                Faults.fault(begin(sort) + "{{else}}" + end(other), sort.equals(other) ? Faults.NONE : wide + 8);
                Faults.fault(begin(other) + begin(sort) + end(sort) + end(other), Faults.NONE);
                Faults.fault(begin(other) + begin(sort) + end(other) + end(sort),
                        sort.equals(other) ? Faults.NONE : begin(other).length() + wide);
            }
        }
        Faults.faultyAtBegin("{{/}}", "{{/a}}", "{{/i}}", "{{/iff}}", "{{/IF}}", "{{/if a}}");
    }

    private static void partialLetters() {
        Bench.sentence(">, a blank and a letter a .. d: the partial TEMPLATE 0 .. 3.");
        for (int c = 0; c <= 127; c++) {
            Faults.fault("{{> " + (char) c + "}}", c >= 'a' && c <= 'd' ? Faults.NONE : 0);
        }
        Faults.faultyAtBegin("{{>}}", "{{> }}", "{{> aa}}", "{{> ab}}", "{{> a.b}}", "{{> \"a\"}}", "{{> 0}}", "{{>  a}}", "{{> this}}");
        for (int k = 0; k < 4; k++) {
            Bench b = new Bench();
            b.engine().number(1);
            for (int other = 0; other < 4; other++) {
                b.compile(other, "T" + other);
            }
            int caller = (k + 1) % 4;
            b.compile(caller, "<{{> " + (char) ('a' + k) + "}}>");
            Bench.due("the partial " + k, b.render(caller, 0), "<T" + k + ">");
        }
    }

    private static void operandsOfHelpers() {
        Bench.sentence("a HELPER and one or two OPERANDS, a blank before each: up, len, not with one, add, eq, at with two.");
        String[] operands = {"a", "this", "@index", "1", "\"a b\"", "../a.0"};
        for (int i = 0; i < 6; i++) {
            String helper = new String[] {"up", "len", "not", "add", "eq", "at"}[i];
            int due = i < 3 ? 1 : 2;
            for (String operand : operands) {
                for (int given = 1; given <= 3; given++) {
                    Faults.expression(helper + Bench.times(given, " " + operand), given == due);
                }
            }
            Faults.expression(helper + " ", false);
            Faults.expression(helper + " a ", false);
            Faults.expression(helper + " up a", due == 2);
            Faults.expression(helper + "1", false);
            Faults.expression(helper + "\"a\"", false);
        }
        for (String other : new String[] {"this", "@index", "a", "sub", "ad", "adds", "Up", "1", "\"up\"", "up.a", "../up", "else"}) {
            Faults.expression(other + " a", false);
            Faults.expression(other + " a a", false);
        }
    }

    private static void helperAlone() {
        Bench.sentence("(So a HELPER's name alone is a PATH.)");
        for (String helper : new String[] {"up", "len", "not", "add", "eq", "at"}) {
            Faults.operand(helper, true);
            Faults.operand(helper + ".a", true);
            Faults.operand("../" + helper, true);
            Faults.operand("a." + helper, true);
            Bench b = new Bench();
            b.engine().map();
            b.put(0, helper, b.text("by"));
            Bench.due("the PATH " + helper, b.render("{{" + helper + "}}{{up " + helper + "}}{{eq " + helper + " " + helper + "}}", 0), "byBY1");
        }
    }

    private static void digits() {
        Bench.sentence("OPERAND: a PATH; 1 to 5 digits");
        String all = "1234567";
        for (int length = 0; length <= all.length(); length++) {
            Faults.operand(all.substring(0, length), length >= 1 && length <= 5);
        }
        for (String number : new String[] {"0", "9", "00000", "99999"}) {
            Faults.operand(number, true);
        }
        for (String number : new String[] {"000000", "100000", "-1", "+1", "1.0", "1a", "a1", "1/", "/1", "1:", ":1", "0x1", "../1", "1."}) {
            Faults.operand(number, false);
        }
        shows("{{0}} {{9}} {{12345}} {{99999}} {{00000}} {{00001}} {{len 00100}}", "0 9 12345 99999 0 1 3");
    }

    private static void quoted() {
        Bench.sentence("or \" characters without \" and } \".");
        for (int c = 0; c <= 127; c++) {
            boolean fits = c != '"' && c != '}';
            Faults.fault("{{\"" + (char) c + "\"}}", fits ? Faults.NONE : 0);
            Faults.fault("{{{\"a" + (char) c + "b\"}}}", fits ? Faults.NONE : 0);
        }
        for (String operand : new String[] {"\"\"", "\"a\"", "\" \"", "\"a b\"", "\"{\"", "\"{{\"", "\"{{{\"", "\"'\""}) {
            Faults.operand(operand, true);
        }
        for (String operand : new String[] {"\"", "\"\"\"", "\"a", "a\"", "\"a\"b", "\"a\"\"b\"", "\"}\"", "\"}", "\"a\".b", "'a'", "../\"a\""}) {
            Faults.operand(operand, false);
        }
        Faults.faultless("{{\"" + Bench.times(194, "q") + "\"}}", "{{{\"" + Bench.times(192, "q") + "\"}}}");
        Faults.fault("{{\"" + Bench.times(195, "q") + "}}", 0);
        shows("[{{\"\"}}]{{\"q\"}}{{len \"\"}}{{len \"q\"}}", "[]q01");
    }

    private static void parentSteps() {
        Bench.sentence("any number of ../");
        for (int back = 0; back <= 65; back++) {
            String steps = Bench.times(back, "../");
            Faults.fault("{{" + steps + "a}}", Faults.NONE);
            Faults.fault("{{" + steps + "}}", 0);
            if (back < 65) {
                Faults.fault("{{" + steps + "this}}", Faults.NONE);
            }
        }
        Faults.operand("../this", true);
        Faults.operand("../../a.b.0", true);
        for (String path : new String[] {"..", "../", "./a", "/a", "..a", ".../a", "..//a", "../..", "../.a", "a/../b", "a../b", "../@index",
            "../@first", "../1", "../../9"}) {
            Faults.operand(path, false);
        }
    }

    private static void namesInPaths() {
        Bench.sentence("A NAME is 1 to 8 letters a .. z.");
        for (int length = 1; length <= 10; length++) {
            String name = Bench.times(length, "z");
            Faults.operand(name, length <= 8);
            Faults.operand("../" + name, length <= 8);
            Faults.operand("a." + name, length <= 8);
            Faults.operand(name + ".0", length <= 8);
        }
        for (int c = 0; c <= 127; c++) {
            boolean letter = c >= 'a' && c <= 'z';
            Faults.fault("{{../" + (char) c + "}}", letter ? Faults.NONE : 0);
            Faults.fault("{{a" + (char) c + "b}}", letter || c == '.' ? Faults.NONE : 0);
            Faults.fault("{{abcdefg" + (char) c + ".a}}", letter ? Faults.NONE : 0);
        }
    }

    private static void stepsOfPaths() {
        Bench.sentence("or NAMES and single digits 0 .. 9");
        for (int c = 0; c <= 127; c++) {
            boolean fits = c >= 'a' && c <= 'z' || c >= '0' && c <= '9';
            Faults.fault("{{a." + (char) c + "}}", fits ? Faults.NONE : 0);
            Faults.fault("{{a." + (char) c + ".b}}", fits ? Faults.NONE : 0);
        }
        for (String path : new String[] {"a.b", "a.0", "a.9", "a.0.1", "a.b.0.c", "a.0.b.9", "a.this", "a.0.this", "../a.b.1"}) {
            Faults.operand(path, true);
        }
        for (String path : new String[] {"a.00", "a.10", "a.99", "a.0a", "a.a0", "a.-1", "a0", "a.0.10", "a.@index", "a.\"b\"", "a.B"}) {
            Faults.operand(path, false);
        }
        Bench.sentence("with a point between two");
        for (String path : new String[] {"a.", ".a", ".", "a..b", "a.b.", "a.0.", "a,b", "a.b..c", "..a.b", "a./b"}) {
            Faults.operand(path, false);
        }
        Faults.faultless("{{a" + Bench.times(97, ".a") + "}}", "{{a" + Bench.times(97, ".9") + "}}");
        Faults.faultyAtBegin("{{a" + Bench.times(96, ".a") + ".}}");
    }

    private static void firstStepOfPaths() {
        Bench.sentence("(the first a NAME, and not this)");
        for (String path : new String[] {"this", "../this", "thisa", "thi", "thiss.a", "a.this", "a.this.b", "../thisa.b"}) {
            Faults.operand(path, true);
        }
        for (String path : new String[] {"this.a", "this.0", "this.this", "../this.a", "../../this.9", "0.a", "9.9", "../0", "../0.a", "this."}) {
            Faults.operand(path, false);
        }
    }

    private static void wordsOfPaths() {
        Bench.sentence("PATH: this; @index; @first");
        for (String path : new String[] {"this", "@index", "@first", "index", "first"}) {
            Faults.operand(path, true);
        }
        for (String path : new String[] {"@", "@a", "@this", "@inde", "@indexa", "@index.a", "@index.0", "@firs", "@firsts", "@first.a", "@last",
            "@Index", "@@index", "@index@first", "a.@first"}) {
            Faults.operand(path, false);
        }
    }

    private static void fourBlocksDeep() {
        Bench.sentence("Blocks nest at most 4 deep.");
        for (String sort : SORTS) {
            int wide = begin(sort).length();
            for (int depth = 1; depth <= 7; depth++) {
                String template = Bench.times(depth, begin(sort)) + Bench.times(depth, end(sort));
                Faults.fault(template, depth <= 4 ? Faults.NONE : 4 * wide);
            }
            String three = Bench.times(3, begin(sort));
            String pair = begin(sort) + end(sort);
            Faults.fault(three + Bench.times(2, pair) + Bench.times(3, end(sort)), Faults.NONE);
            Faults.fault(three + pair + begin(sort) + begin(sort), 4 * wide + pair.length());
            Faults.fault(three + begin(sort) + "{{else}}" + begin(sort), 4 * wide + 8);
        }
        Faults.fault(Bench.times(12, "{{#if a}}{{/if}}"), Faults.NONE);
        Faults.fault(Bench.times(3, "{{#if a}}") + "{{else}}{{#if a}}{{/if}}" + Bench.times(3, "{{/if}}"), Faults.NONE);
    }

    private static void fourBlocksOfMixedSorts() {
        Bench.sentence("or the 5th block inside of one another");
        String four = "{{#if a}}{{#each a}}{{#with a}}{{#if a}}";
        Faults.fault(four + "{{/if}}{{/with}}{{/each}}{{/if}}", Faults.NONE);
        for (String sort : SORTS) {
            Faults.fault(four + begin(sort), four.length());
            Faults.fault(four + begin(sort) + end(sort) + "{{/if}}{{/with}}{{/each}}{{/if}}", four.length());
            Faults.fault(four + "{{/if}}" + begin(sort) + end(sort) + "{{/with}}{{/each}}{{/if}}", Faults.NONE);
            Faults.fault(four + "{{/if}}" + begin(sort) + begin(sort), four.length() + 7 + begin(sort).length());
        }
        Faults.fault(four + "{{a}}{{A}}", four.length() + 5);
        Faults.fault(four + "{{#if a}}{{A}}", four.length());
    }

    private static void firstTagWithAFault() {
        Bench.sentence("at the place of the {{ of the first TAG whose INSIDE is none of these, whose end is missing, "
                + "which is an else or end that has no block to fit, or the 5th block inside of one another");
        String[] faulty = {"{{A}}", "{{else}}", "{{/if}}", "{{/with}}", "{{{a b}}}", "{{#each }}", "{{"};
        for (String first : faulty) {
            Faults.faultyAtBegin(first);
            Faults.fault("{{a}}" + first, 5);
            Faults.fault("{{a}}b" + first + "{{B}}", 6);
            Faults.fault("{{!}}{{{a}}}" + first + "{{#if a}}", 12);
        }
        Faults.fault("{{#if a}}{{A}}", 9);
        Faults.fault("{{#if a}}{{/each}}{{A}}", 9);
        Faults.fault("{{#if a}}{{else}}{{else}}{{A}}", 17);
        Faults.fault("{{#if a}}{{/if}}{{#if a}}{{", 25);
        Faults.fault("{{A}}{{#if a}}", 0);
    }

    private static void lastBlockWithoutEnd() {
        Bench.sentence("if there is none, of the last block that has no end.");
        for (String sort : SORTS) {
            String begin = begin(sort);
            int wide = begin.length();
            Faults.fault(begin, 0);
            Faults.fault("ab" + begin + "c", 2);
            Faults.fault(begin + "{{else}}", 0);
            Faults.fault(begin + begin, wide);
            Faults.fault(begin + begin + end(sort), 0);
            Faults.fault(begin + begin + begin + end(sort), wide);
            Faults.fault(begin + begin + end(sort) + begin, wide + wide + end(sort).length());
            Faults.fault(begin + end(sort) + begin, wide + end(sort).length());
            Faults.fault(begin + end(sort) + begin + begin + end(sort), wide + end(sort).length());
            Faults.fault(Bench.times(4, begin), 3 * wide);
            Faults.fault(begin + "{{else}}" + begin + "{{else}}" + end(sort), 0);
        }
    }

    /** Rendered for a MAP in which n is 7. */
    private static void shows(String template, String want) {
        Bench b = new Bench();
        b.engine().map();
        b.put(0, "n", b.engine().number(7));
        Bench.due(template, b.render(template, 0), want);
    }
}
