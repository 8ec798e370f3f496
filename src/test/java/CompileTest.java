/** Promises 9 and 10: which templates have a FAULT, and where. */
public final class CompileTest {
    private static final int NONE = -1;

    public static void main(String[] args) {
        tagsAreCounted();
        tagsBeginAndEnd();
        blanks();
        paths();
        operands();
        helpers();
        partialsAndRemarks();
        blocks();
        firstFaultCounts();
        lineAndTemplateAfterwards();
        errorAtAfterwards();
        Bench.finish();
    }

    /** The fault must be there, or the template must have as many tags. */
    private static void fault(String template, int place) {
        Bench b = new Bench();
        b.type(template);
        String answer = Bench.answerOf(() -> b.engine.compile(2));
        if (place == NONE) {
            Bench.due("compiling " + template, Bench.BAD_ARGUMENT.equals(answer), false);
        } else {
            Bench.due("compiling " + template, answer, Bench.BAD_ARGUMENT);
        }
        Bench.due("the fault of " + template, () -> b.engine.errorAt(), place);
        Bench.due("THE LINE after " + template, () -> b.engine.count(1), 0);
        Bench.due("templates after " + template, () -> b.engine.count(2), place == NONE ? 1 : 0);
    }

    private static void faultless(String... templates) {
        for (String template : templates) {
            fault(template, NONE);
        }
    }

    private static void faultyAtBegin(String... templates) {
        for (String template : templates) {
            fault(template, 0);
            fault("ab" + template, 2);
        }
    }

    private static void tagsAreCounted() {
        Bench b = new Bench();
        Bench.due("no text", b.compile(0, ""), 0);
        Bench.due("plain", b.compile(1, "abc}} { {"), 0);
        Bench.due("each sort", b.compile(2, "{{a}}{{{a}}}{{!}}{{> a}}{{#if a}}{{else}}{{/if}}"), 7);
        Bench.due("two blocks", b.compile(3, "{{#each a}}{{/each}} {{#with a}}{{/with}}"), 4);
        Bench.due("templates", () -> b.engine.count(2), 4);
        Bench.due("as many as fit", b.compile(3, Bench.times(40, "{{a}}")), 40);
    }

    private static void tagsBeginAndEnd() {
        faultless("{", "{ {", "}}", "}}}", "a{b}c", "{{a}}}", "{{{a}}}}", "{{!{{a}}", "{{!}}}", "{{\"{{\"}}", "{a}{{a}}{");
        faultyAtBegin("{{", "{{{", "{{a", "{{a}", "{{a} }", "{{{a}}", "{{{{a}}}}", "{{}}", "{{{}}}", "{{{a}}{{a}}", "{{a{{a}}");
        fault("{{a}}{{a", 5);
        fault("{{a}}{ {{{a}}", 7);
    }

    private static void blanks() {
        faultyAtBegin("{{ a}}", "{{a }}", "{{ }}", "{{up  a}}", "{{up a }}", "{{add a  b}}", "{{#if  a}}", "{{#if a }}{{/if}}",
                "{{# if a}}", "{{ else}}", "{{else }}", "{{>  a}}", "{{> a }}", "{{>a}}", "{{{ a}}}", "{{up\ta}}");
        fault("{{#if a}}{{/if }}", 9);
        fault("{{#if a}}{{ /if}}", 9);
        fault("{{#if a}}{{else }}{{/if}}", 9);
    }

    private static void paths() {
        faultless("{{this}}", "{{@index}}", "{{@first}}", "{{../this}}", "{{../../../a}}", "{{a.b.c}}", "{{a.0.9.b}}", "{{../a.1}}",
                "{{a.this}}", "{{abcdefgh}}", "{{a.abcdefgh}}", "{{thisx}}", "{{thi}}", "{{index}}", "{{first}}", "{{elses}}",
                "{{a.else}}", "{{{else}}}", "{{#if else}}{{/if}}", "{{../else}}");
        faultyAtBegin("{{this.a}}", "{{../this.a}}", "{{this.0}}", "{{../@index}}", "{{../@first}}", "{{@index.a}}", "{{@indexx}}",
                "{{@}}", "{{@last}}", "{{..}}", "{{../}}", "{{./a}}", "{{.a}}", "{{a.}}", "{{a..b}}", "{{a.10}}", "{{a.b1}}",
                "{{a.1b}}", "{{../1}}", "{{../\"a\"}}", "{{a/b}}", "{{a.../b}}", "{{abcdefghi}}", "{{a.abcdefghi}}", "{{A}}",
                "{{a.B}}", "{{a-b}}", "{{a/../b}}", "{{.../a}}");
        faultless("{{" + Bench.times(64, "../") + "a}}", "{{a" + Bench.times(97, ".a") + "}}");
        faultyAtBegin("{{" + Bench.times(64, "../") + "}}", "{{a" + Bench.times(96, ".a") + ".}}");
    }

    private static void operands() {
        faultless("{{1}}", "{{12345}}", "{{00000}}", "{{\"\"}}", "{{\" \"}}", "{{\"a b\"}}", "{{\"{\"}}", "{{{\"a\"}}}", "{{{1}}}",
                "{{\"\n\0\177\"}}", "{{up \"a b\"}}", "{{eq \"a b\" \" \"}}");
        faultyAtBegin("{{123456}}", "{{-1}}", "{{+1}}", "{{1.0}}", "{{1a}}", "{{1.a}}", "{{\"}}", "{{\"a}}", "{{a\"}}", "{{\"a\"b}}",
                "{{\"a\"\"b\"}}", "{{\"a}b\"}}", "{{{\"a}}b\"}}}", "{{'a'}}", "{{\"a\".b}}", "{{up\"a\"}}", "{{up \"a}}");
    }

    private static void helpers() {
        for (String name : new String[] {"up", "len", "not"}) {
            faultless("{{" + name + "}}", "{{" + name + " a}}", "{{" + name + ".a}}", "{{" + name + " " + name + "}}",
                    "{{{" + name + " 1}}}", "{{#if " + name + " a}}{{/if}}", "{{#with " + name + "}}{{/with}}");
            faultyAtBegin("{{" + name + " }}", "{{" + name + " a b}}", "{{" + name + " up a}}", "{{" + name + "1}}");
        }
        for (String name : new String[] {"add", "eq", "at"}) {
            faultless("{{" + name + "}}", "{{" + name + " a b}}", "{{" + name + ".a}}", "{{" + name + " " + name + " 1}}",
                    "{{{" + name + " 1 2}}}", "{{#each " + name + " a ../b.1}}{{/each}}");
            faultyAtBegin("{{" + name + " }}", "{{" + name + " a}}", "{{" + name + " a }}", "{{" + name + " a b c}}",
                    "{{" + name + " a b }}");
        }
        faultyAtBegin("{{sub a b}}", "{{a b}}", "{{this a}}", "{{ups a}}", "{{UP a}}", "{{up.a b}}", "{{#up a}}", "{{/up}}");
    }

    private static void partialsAndRemarks() {
        faultless("{{> a}}", "{{> b}}", "{{> c}}", "{{> d}}", "{{!}}", "{{! any } \" thing {{ #if}}", "{{!#if a}}", "{{!else}}");
        faultyAtBegin("{{> e}}", "{{> `}}", "{{> A}}", "{{> 0}}", "{{> ab}}", "{{> }}", "{{>}}", "{{{> a}}}", "{{{!a}}}", "{{ !a}}");
    }

    private static void blocks() {
        for (String sort : new String[] {"if", "each", "with"}) {
            String begin = "{{#" + sort + " a}}";
            String end = "{{/" + sort + "}}";
            int wide = begin.length();
            faultless(begin + end, begin + "{{else}}" + end, begin + "x{{else}}y" + end + begin + "{{else}}" + end,
                    begin + begin + "{{else}}" + end + "{{else}}" + end, Bench.times(4, begin) + Bench.times(4, end));
            faultyAtBegin("{{#" + sort + "}}", "{{#" + sort + " }}", "{{#" + sort + "a}}", "{{{#" + sort + " a}}}", end, begin,
                    "{{#" + sort + " a b}}");
            fault(begin + "{{else}}{{else}}" + end, wide + 8);
            fault(begin + end + end, wide + end.length());
            fault(begin + end + "{{else}}", wide + end.length());
            fault(begin + begin + end, 0);
            fault(begin + begin, wide);
            fault(Bench.times(5, begin) + Bench.times(5, end), 4 * wide);
            fault(Bench.times(5, begin), 4 * wide);
        }
        faultless(Bench.times(4, "{{#if a}}{{/if}}") + Bench.times(4, "{{#if a}}") + Bench.times(4, "{{/if}}"));
        faultyAtBegin("{{else}}", "{{#else}}", "{{/else}}", "{{/}}", "{{#}}", "{{{/if}}}");
        fault("{{#if a}}{{/each}}", 9);
        fault("{{#if a}}{{#each a}}{{/if}}{{/each}}", 20);
        fault("{{#if a}}{{else}}{{/with}}", 17);
        fault("{{#with a}}{{#if a}}{{/if}}{{else}}", 0);
        fault("{{#with a}}{{else}}{{#if a}}", 19);
    }

    private static void firstFaultCounts() {
        fault("{{#if a}}{{A}}", 9);
        fault("{{A}}{{#if a}}", 0);
        fault("{{#if a}}{{/each}}{{A}}", 9);
        fault("{{#if a}}{{else}}{{else}}{{A}}", 17);
        fault("{{#if a}}{{a", 9);
        fault("{{a}} {{A}} {{B}}", 6);
    }

    private static void lineAndTemplateAfterwards() {
        Bench b = new Bench();
        b.engine.number(5);
        b.type("<{{this}}>");
        Bench.due("compile(4)", () -> b.engine.compile(4), Bench.BAD_INDEX);
        Bench.due("compile(-1)", () -> b.engine.compile(-1), Bench.BAD_INDEX);
        Bench.due("THE LINE stays", () -> b.engine.count(1), 10);
        Bench.due("compile(3)", () -> b.engine.compile(3), 1);
        Bench.due("THE LINE is empty", () -> b.engine.count(1), 0);
        b.type("{{");
        Bench.due("a fault", () -> b.engine.compile(3), Bench.BAD_ARGUMENT);
        Bench.due("THE LINE is empty, too", () -> b.engine.count(1), 0);
        Bench.due("the template from before stays", b.render(3, 0), "<5>");
        b.compile(3, "new");
        Bench.due("in place of the other", b.render(3, 0), "new");
        Bench.due("one template", () -> b.engine.count(2), 1);
    }

    private static void errorAtAfterwards() {
        Bench b = new Bench();
        b.type("abc{{");
        Bench.due("a fault", () -> b.engine.compile(0), Bench.BAD_ARGUMENT);
        Bench.due("errorAt", () -> b.engine.errorAt(), 3);
        b.type("a{{");
        Bench.due("compile(9)", () -> b.engine.compile(9), Bench.BAD_INDEX);
        Bench.due("errorAt stays", () -> b.engine.errorAt(), 3);
        Bench.due("a fault", () -> b.engine.compile(0), Bench.BAD_ARGUMENT);
        Bench.due("errorAt", () -> b.engine.errorAt(), 1);
        b.compile(0, "fine");
        Bench.due("errorAt of none", () -> b.engine.errorAt(), -1);
        Bench.due("compile(9)", () -> b.engine.compile(9), Bench.BAD_INDEX);
        Bench.due("errorAt stays", () -> b.engine.errorAt(), -1);
    }
}
