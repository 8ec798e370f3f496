/** The sentences that name a boundary about rendering: of 'Terms', and of the promises 11, 12 and 15. */
public final class RenderBoundaryTest {
    private static final int[] FAR = {Integer.MIN_VALUE, -2, -1, 1000, Integer.MAX_VALUE};

    public static void main(String[] args) {
        templatesThereAre();
        dataThereAre();
        partialsThereAre();
        threeTemplatesUnderWay();
        underWayInOneAnotherOnly();
        fourthTemplateIsNotThere();
        emptyAndFullResult();
        resultTooLongByEachSort();
        resultTooLongByEscapes();
        resultTooLongByPartials();
        textTooLongForHelpers();
        noTextForOtherHelpers();
        sixHundredTags();
        sixHundredFirstOfEachSort();
        tagsNotComeTo();
        renderedBeforeStays();
        charactersOfTheResult();
        charactersOfAShorterResult();
        countsThatThereAre();
        countsOfDataAndLine();
        countsOfTheLastRender();
        countOfTags();
        countOfTemplates();
        countOfThrows();
        contextsBack();
        mostContextsBack();
        namesInMaps();
        digitsInLists();
        pathsOfNothing();
        indexWithoutEach();
        indexInEveryTurn();
        indexOfTheInnermost();
        indexNotInAPartial();
        upAtTheEdges();
        lenAtTheEdges();
        falses();
        wrappingSum();
        sumOfOthers();
        eqOfAll();
        atAtTheEdges();
        shownRaw();
        shownEscaped();
        ifParts();
        eachParts();
        eachInOrder();
        withParts();
        partialsHaveAllContexts();
        whatNothingGives();
        Bench.finish();
    }

    private static void templatesThereAre() {
        Bench.sentence("IndexOutOfBoundsException: no such k. NoSuchElementException: there is no such TEMPLATE or DATA");
        for (int there = 0; there < 4; there++) {
            Bench b = new Bench();
            b.engine().number(5);
            b.compile(there, "T");
            for (int k = -2; k <= 6; k++) {
                String due = k == there ? "T" : k >= 0 && k <= 3 ? Bench.NO_ELEMENT : Bench.BAD_INDEX;
                Bench.due("render(" + k + ", 0), TEMPLATE " + there + " is there", b.render(k, 0), due);
            }
        }
        for (int k : FAR) {
            Bench.due("render(" + k + ", 0)", Sample.bench().render(k, 0), Bench.BAD_INDEX);
        }
    }

    private static void dataThereAre() {
        Bench.sentence("NoSuchElementException: there is no such TEMPLATE or DATA");
        Bench b = new Bench();
        b.compile(0, "{{this}}");
        for (int made = 0; made < 60; made++) {
            Bench.due("DATA behind the last", b.render(0, made), Bench.NO_ELEMENT);
            b.engine().number(made % 10);
            Bench.due("the last DATA", b.render(0, made), made % 10);
        }
        Bench.due("a 61st", b.render(0, 60), Bench.NO_ELEMENT);
        for (int x : FAR) {
            Bench.due("DATA " + x, b.render(0, x), Bench.NO_ELEMENT);
        }
    }

    private static void partialsThereAre() {
        Bench.sentence("or, when it is come to, no such partial.");
        for (String missing : new String[] {"{{> b}}", "{{> c}}", "{{> d}}"}) {
            Bench.due("come to", Sample.bench().render("a" + missing, 0), Bench.NO_ELEMENT);
            String[] not = {"{{#if x}}" + missing + "{{/if}}", "{{#if n}}{{else}}" + missing + "{{/if}}", "{{#each el}}" + missing + "{{/each}}",
                "{{#each l}}{{else}}" + missing + "{{/each}}", "{{#with x}}" + missing + "{{/with}}", "{{#with z}}{{else}}" + missing + "{{/with}}",
                "{{!" + missing.substring(2)};
            for (String template : not) {
                Bench.due("not come to: " + template, Sample.bench().render(template, 0), "");
            }
            Bench.due("come to in the last turn", Sample.bench().render("{{#each l}}{{#if b}}" + missing + "{{/if}}{{/each}}", 0), Bench.NO_ELEMENT);
            Bench.due("come to in the other part", Sample.bench().render("{{#if x}}{{else}}" + missing + "{{/if}}", 0), Bench.NO_ELEMENT);
        }
        Bench b = Sample.bench();
        b.compile(0, "a{{> b}}");
        Bench.due("not there yet", b.render(0, 0), Bench.NO_ELEMENT);
        b.compile(1, "b{{> c}}");
        Bench.due("the partial of the partial is not", b.render(0, 0), Bench.NO_ELEMENT);
        b.compile(2, "");
        Bench.due("an empty one is there", b.render(0, 0), "ab");
    }

    private static void threeTemplatesUnderWay() {
        Bench.sentence("At most 3 TEMPLATES may be under way in one another.");
        Bench b = new Bench();
        b.engine().number(1);
        b.compile(3, "d");
        b.compile(2, "c{{> d}}");
        b.compile(1, "b{{> c}}");
        b.compile(0, "a{{> b}}");
        Bench.due("1", b.render(3, 0), "d");
        Bench.due("2", b.render(2, 0), "cd");
        Bench.due("3", b.render(1, 0), "bcd");
        Bench.due("4", b.render(0, 0), Bench.BAD_DEPTH);
        Bench.due("3, after a refusal", b.render(1, 0), "bcd");
    }

    private static void underWayInOneAnotherOnly() {
        Bench.sentence("ArithmeticException: a 4th TEMPLATE would be under way");
        Bench b = new Bench();
        int number = b.engine().number(1);
        int one = b.list(number);
        int two = b.list(one);
        int three = b.list(two);
        b.compile(0, "<{{#each this}}{{> a}}{{/each}}>");
        Bench.due("1 of the same", b.render(0, number), "<>");
        Bench.due("2 of the same", b.render(0, one), "<<>>");
        Bench.due("3 of the same", b.render(0, two), "<<<>>>");
        Bench.due("4 of the same", b.render(0, three), Bench.BAD_DEPTH);
        b.compile(1, "{{> c}}{{> c}}");
        b.compile(2, "c");
        Bench.due("one after the other", b.render(Bench.times(10, "{{> b}}"), number), Bench.times(20, "c"));
        b.compile(0, "{{> a}}");
        Bench.due("without end", b.render(0, number), Bench.BAD_DEPTH);
        b.compile(3, "{{> a}}");
        Bench.due("round by two", b.render("{{> d}}", number), Bench.BAD_DEPTH);
    }

    private static void fourthTemplateIsNotThere() {
        Bench.sentence("(tested after that it is there)");
        Bench b = new Bench();
        b.engine().number(1);
        b.compile(0, "{{> b}}");
        b.compile(1, "{{> c}}");
        b.compile(2, "{{> d}}");
        Bench.due("the 4th is not there", b.render(0, 0), Bench.NO_ELEMENT);
        Bench.due("the 3rd is not there", b.render(1, 0), Bench.NO_ELEMENT);
        b.compile(3, "d");
        Bench.due("the 4th is there", b.render(0, 0), Bench.BAD_DEPTH);
        Bench.due("the 3rd is there", b.render(1, 0), "d");
    }

    private static void emptyAndFullResult() {
        Bench.sentence("the length of the result, of which at most 400 characters can be.");
        Bench b = new Bench();
        int list = Sample.longList(b, 399);
        b.compile(1, "");
        Bench.due("0", () -> b.engine().render(1, list), 0);
        b.compile(0, "{{this}}");
        Bench.due("399", () -> b.engine().render(0, list), 399);
        b.compile(0, "{{this}}x");
        Bench.due("400", () -> b.engine().render(0, list), 400);
        b.compile(0, "{{this}}xy");
        Bench.due("401", () -> b.engine().render(0, list), Bench.BAD_STATE);
        Bench.due("the 400 stay", () -> b.engine().count(3), 400);
        Bench full = new Bench();
        int part = full.text(Bench.times(39, "a"));
        int most = full.list(part, part, part, part, part, part, part, part, part, part);
        Bench.due("all 400", full.render("{{this}}x", most), Bench.times(9, Bench.times(39, "a") + ",") + Bench.times(39, "a") + "x");
    }

    /** What the template shows behind a LIST must fit if it makes 400, and be refused if it makes 401. */
    private static void fills(String template, int length) {
        for (int more = -1; more <= 1; more++) {
            int due = 400 + more;
            Bench b = Sample.bench();
            int pair = b.list(b.engine().text(), b.engine().text());
            b.put(0, "l", b.list(Sample.longList(b, due - length), pair));
            b.compile(0, "{{l.0}}" + template);
            String got = Bench.answerOf(() -> b.engine().render(0, 0));
            Bench.due(template + " up to " + due, got, due <= 400 ? due : Bench.BAD_STATE);
        }
    }

    private static void resultTooLongByEachSort() {
        Bench.sentence("IllegalStateException: the result, or a text that is shown raw for a HELPER, would be longer");
        fills("x", 1);
        fills("xyz{{!}}", 3);
        fills("{{n}}", 1);
        fills("{{{n}}}", 1);
        fills("{{12345}}", 5);
        fills("{{min}}", 11);
        fills("{{{min}}}", 11);
        fills("{{\"abc\"}}", 3);
        fills("{{m}}", 5);
        fills("{{{em}}}", 5);
        fills("{{l.1}}", 1);
        fills("{{len t}}", 1);
        fills("{{up \"abc\"}}", 3);
        fills("{{eq n n}}{{not x}}", 2);
        fills("{{add 99999 1}}", 6);
        fills("{{#if n}}x{{/if}}", 1);
        fills("{{#with t}}{{len this}}{{/with}}", 1);
        fills("{{#each l.1}}ab{{/each}}", 4);
        fills("{{x}}{{et}}{{el}}{{!}}{{#if x}}y{{/if}}", 0);
    }

    private static void resultTooLongByEscapes() {
        Bench.sentence("the result, or a text that is shown raw for a HELPER, would be longer");
        fills("{{\"&\"}}", 5);
        fills("{{\"<\"}}", 4);
        fills("{{\">\"}}", 4);
        fills("{{q}}", 21);
        fills("{{up q}}", 21);
        fills("{{{q}}}", 6);
        fills("{{{\"&<>\"}}}", 3);
        fills("&<>\"", 4);
    }

    private static void resultTooLongByPartials() {
        Bench.sentence("of which at most 400 characters can be");
        for (int more = 0; more <= 1; more++) {
            Bench b = new Bench();
            b.engine().number(1);
            b.compile(1, Bench.times(200, "b"));
            b.compile(0, "{{> b}}{{> b}}" + Bench.times(more, "x"));
            Bench.due("400 and " + more, () -> b.engine().render(0, 0), more == 0 ? 400 : Bench.BAD_STATE);
        }
        Bench b = new Bench();
        b.engine().number(1);
        b.compile(1, Bench.times(133, "b") + "{{> c}}");
        b.compile(2, Bench.times(133, "c"));
        b.compile(0, "{{> b}}" + Bench.times(133, "a") + "x");
        Bench.due("133 by each of three, and one", () -> b.engine().render(0, 0), 400);
    }

    private static void textTooLongForHelpers() {
        Bench.sentence("or a text that is shown raw for a HELPER, would be longer");
        for (int length = 399; length <= 401; length++) {
            Bench b = new Bench();
            int list = Sample.longList(b, length);
            boolean fits = length <= 400;
            Bench.due("up of " + length, b.render("{{#with up this}}{{len this}}{{/with}}", list), fits ? length : Bench.BAD_STATE);
            Bench.due("if up of " + length, b.render("{{#if up this}}y{{/if}}", list), fits ? "y" : Bench.BAD_STATE);
            Bench.due("each up of " + length, b.render("{{#each up this}}{{else}}n{{/each}}", list), fits ? "n" : Bench.BAD_STATE);
            Bench.due("eq with " + length + " first", b.render("{{eq this 1}}", list), fits ? "0" : Bench.BAD_STATE);
            Bench.due("eq with " + length + " second", b.render("{{eq \"a\" this}}", list), fits ? "0" : Bench.BAD_STATE);
            Bench.due("eq with " + length + " twice", b.render("{{eq this this}}", list), fits ? "1" : Bench.BAD_STATE);
        }
        Bench b = new Bench();
        int list = Sample.longList(b, 400);
        Bench.due("up of up of 400", b.render("{{#with up this}}{{#with up this}}{{len this}}{{eq this ../this}}{{/with}}{{/with}}", list), "4001");
        Bench.due("eq of 400 with what differs in the last", b.render("{{#with up this}}{{eq this ../this}}{{/with}}", list), "0");
    }

    private static void noTextForOtherHelpers() {
        Bench.sentence("a text that is shown raw for a HELPER");
        Bench b = new Bench();
        int list = Sample.longList(b, 401);
        Bench.due("len", b.render("{{len this}}", list), "10");
        Bench.due("not", b.render("{{not this}}", list), "0");
        Bench.due("add", b.render("[{{add this this}}]", list), "[]");
        Bench.due("at", b.render("{{len this}}{{#with at this 9}}{{len this}}{{/with}}", list), "1041");
        Bench.due("blocks", b.render("{{#if this}}i{{/if}}{{#with this}}w{{/with}}{{#each this}}e{{/each}}", list), "iweeeeeeeeee");
        Bench.due("shown", b.render("{{this}}", list), Bench.BAD_STATE);
        Bench.due("shown raw", b.render("{{{this}}}", list), Bench.BAD_STATE);
    }

    /** An engine whose TEMPLATE 0 comes to 582 TAGS for the LIST of ten, and then to what is typed. */
    private static Bench afterTags(int more, String last) {
        Bench b = new Bench();
        Sample.tenNumbers(b);
        b.compile(2, "");
        b.compile(1, Bench.times(28, "{{!}}"));
        b.compile(0, Bench.times(2, "{{#each this}}{{> b}}{{/each}}") + Bench.times(more, "{{!}}") + last);
        return b;
    }

    private static void sixHundredTags() {
        Bench.sentence("or a 601st TAG would be come to.");
        for (int tags = 598; tags <= 602; tags++) {
            Bench b = afterTags(tags - 582, "");
            Bench.due(tags + " TAGS", b.render(0, 0), tags <= 600 ? "" : Bench.BAD_STATE);
            Bench.due("TAGS come to", () -> b.engine().count(4), tags <= 600 ? tags : 0);
        }
    }

    private static void sixHundredFirstOfEachSort() {
        Bench.sentence("a 601st TAG");
        String[] sorts = {"{{x}}", "{{{x}}}", "{{!}}", "{{> c}}", "{{#if x}}{{/if}}", "{{#each x}}{{/each}}", "{{#with x}}{{/with}}",
            "{{#if x}}{{else}}{{/if}}", "{{#with this}}{{/with}}", "{{#each this}}{{/each}}"};
        for (String sort : sorts) {
            Bench full = afterTags(17, sort);
            Bench.due(sort + " as the 600th", full.render(0, 0), "");
            Bench.due(sort + " as the 600th, counted", () -> full.engine().count(4), 600);
            Bench.due(sort + " as the 601st", afterTags(18, sort).render(0, 0), Bench.BAD_STATE);
        }
        Bench.due("in a block that is the 600th", afterTags(17, "{{#with this}}{{!}}{{/with}}").render(0, 0), Bench.BAD_STATE);
        Bench.due("in the other part of the 600th", afterTags(17, "{{#if x}}{{else}}{{!}}{{/if}}").render(0, 0), Bench.BAD_STATE);
        Bench.due("in the second turn", afterTags(16, "{{#each this}}{{!}}{{/each}}").render(0, 0), Bench.BAD_STATE);
    }

    private static void tagsNotComeTo() {
        Bench.sentence("(else and ends not counted, those of partials too, each time)");
        String[] last = {"{{#if x}}{{!}}{{!}}{{/if}}", "{{#each x}}{{!}}{{/each}}", "{{#with x}}{{!}}{{else}}{{/with}}", "{{#if this}}{{else}}{{!}}{{/if}}"};
        for (String block : last) {
            Bench b = afterTags(17, block);
            Bench.due("as the 600th: " + block, b.render(0, 0), "");
            Bench.due("TAGS come to", () -> b.engine().count(4), 600);
        }
    }

    private static void renderedBeforeStays() {
        Bench.sentence("What was rendered before stays, if it throws.");
        String[][] thrown = {{"{{> d}}", Bench.NO_ELEMENT}, {"longer{{> d}}", Bench.NO_ELEMENT}, {"{{> a}}", Bench.BAD_DEPTH},
            {"abc{{> a}}", Bench.BAD_DEPTH}, {Bench.times(21, "{{> b}}"), Bench.BAD_STATE}};
        for (String[] pair : thrown) {
            Bench b = new Bench();
            b.engine().number(5);
            b.compile(1, Bench.times(20, "x"));
            Bench.due("render", b.render("a{{this}}{{!}}", 0), "a5");
            Bench.due("throws", b.render(pair[0], 0), pair[1]);
            Bench.due("what was rendered before", b.rendered(), "a5");
            Bench.due("its length", () -> b.engine().count(3), 2);
            Bench.due("its TAGS", () -> b.engine().count(4), 2);
            Bench.due("no such k", b.render(4, 0), Bench.BAD_INDEX);
            Bench.due("no such DATA", b.render(0, 1), Bench.NO_ELEMENT);
            Bench.due("what was rendered before", b.rendered(), "a5");
        }
    }

    private static void charactersOfTheResult() {
        Bench.sentence("Character i of what was rendered last. IndexOutOfBoundsException: there is none.");
        Bench b = new Bench();
        b.engine().number(5);
        for (int i = -1; i <= 1; i++) {
            int place = i;
            Bench.due("before any render, at(" + i + ")", () -> b.engine().at(place), Bench.BAD_INDEX);
        }
        b.render("", 0);
        Bench.due("of an empty result", () -> b.engine().at(0), Bench.BAD_INDEX);
        b.render("\0b\177", 0);
        int[] due = {0, 'b', 127};
        for (int i = -2; i <= 4; i++) {
            int place = i;
            Bench.due("at(" + i + ")", () -> b.engine().at(place), i >= 0 && i < 3 ? due[i] : Bench.BAD_INDEX);
        }
        for (int i : FAR) {
            Bench.due("at(" + i + ")", () -> b.engine().at(i), Bench.BAD_INDEX);
        }
        Bench full = new Bench();
        int list = Sample.longList(full, 399);
        full.compile(0, "{{this}}x");
        full.engine().render(0, list);
        Bench.due("at(398)", () -> full.engine().at(398), (int) 'b');
        Bench.due("at(399)", () -> full.engine().at(399), (int) 'x');
        Bench.due("at(400)", () -> full.engine().at(400), Bench.BAD_INDEX);
        Bench.due("at(401)", () -> full.engine().at(401), Bench.BAD_INDEX);
    }

    private static void charactersOfAShorterResult() {
        Bench.sentence("Character i of what was rendered last.");
        Bench b = new Bench();
        b.engine().number(5);
        b.render("abcdef", 0);
        b.render("xyz", 0);
        Bench.due("at(2)", () -> b.engine().at(2), (int) 'z');
        Bench.due("at(3), of the longer result before", () -> b.engine().at(3), Bench.BAD_INDEX);
        b.render("longer than both{{> d}}", 0);
        Bench.due("at(2), after a refusal", () -> b.engine().at(2), (int) 'z');
        Bench.due("at(3), after a refusal", () -> b.engine().at(3), Bench.BAD_INDEX);
        b.compile(0, "compiled only");
        Bench.due("at(0), after a compile", () -> b.engine().at(0), (int) 'x');
    }

    private static void countsThatThereAre() {
        Bench.sentence("Else -1.");
        Bench b = Sample.bench();
        for (int what : new int[] {Integer.MIN_VALUE, -2, -1, 6, 7, 100, Integer.MAX_VALUE}) {
            Bench.due("count(" + what + ")", () -> b.engine().count(what), -1);
            Bench.due("a new object's count(" + what + ")", () -> new TemplateEngine().count(what), -1);
        }
        Bench.due("none of them threw", () -> b.engine().count(5), 0);
        Bench.due("count(0) is the first", () -> b.engine().count(0), 15);
    }

    private static void countsOfDataAndLine() {
        Bench.sentence("0: DATA; 1: characters in THE LINE");
        Bench b = new Bench();
        for (int made = 0; made <= 60; made++) {
            Bench.due("DATA", () -> b.engine().count(0), made);
            Bench.answerOf(() -> b.engine().number(0));
        }
        Bench.due("DATA after a 61st", () -> b.engine().count(0), 60);
        Bench c = new Bench();
        for (int typed = 0; typed <= 200; typed++) {
            Bench.due("THE LINE", () -> c.engine().count(1), typed);
            Bench.answerOf(() -> c.engine().type(0));
        }
        Bench.due("THE LINE after a 201st", () -> c.engine().count(1), 200);
    }

    private static void countsOfTheLastRender() {
        Bench.sentence("3: the length of what was rendered last (0 before)");
        Bench b = new Bench();
        b.engine().number(5);
        b.compile(0, "{{this}}");
        Bench.due("before", () -> b.engine().count(3), 0);
        b.engine().render(0, 0);
        Bench.due("then", () -> b.engine().count(3), 1);
        b.compile(1, "");
        Bench.due("after a compile", () -> b.engine().count(3), 1);
        b.engine().render(1, 0);
        Bench.due("of an empty result", () -> b.engine().count(3), 0);
    }

    private static void countOfTags() {
        Bench.sentence("4: TAGS that the last render which threw nothing came to");
        Bench b = new Bench();
        int list = Sample.tenNumbers(b);
        Bench.due("before any render", () -> b.engine().count(4), 0);
        b.compile(1, "{{!}}{{this}}");
        b.compile(0, "{{#each this}}{{> b}}{{#if x}}{{this}}{{else}}{{!}}{{/if}}{{/each}}{{#with x}}{{this}}{{/with}}");
        Bench.due("compile alone is no render", () -> b.engine().count(4), 0);
        b.engine().render(0, list);
        Bench.due("partials and other parts, each time", () -> b.engine().count(4), 1 + 10 * 5 + 1);
        b.engine().render(1, list);
        Bench.due("the last alone", () -> b.engine().count(4), 2);
        Bench.due("one that throws", b.render("{{!}}{{!}}{{!}}{{> d}}", list), Bench.NO_ELEMENT);
        Bench.due("the last that threw nothing", () -> b.engine().count(4), 2);
        b.render("no TAG", list);
        Bench.due("of no TAG", () -> b.engine().count(4), 0);
    }

    private static void countOfTemplates() {
        Bench.sentence("2: TEMPLATES there are");
        Bench b = new Bench();
        int[] places = {3, 3, 0, 1, 0, 2, 2};
        int[] due = {1, 1, 2, 3, 3, 4, 4};
        for (int i = 0; i < places.length; i++) {
            b.compile(places[i], "");
            Bench.due("after compile(" + places[i] + ")", () -> b.engine().count(2), due[i]);
        }
        b.type("{{");
        Bench.answerOf(() -> b.engine().compile(0));
        Bench.due("after a FAULT", () -> b.engine().count(2), 4);
    }

    private static void countOfThrows() {
        Bench.sentence("5: calls that threw.");
        Bench b = new Bench();
        b.engine().number(1);
        b.compile(1, "{{> d}}");
        b.compile(2, "{{> c}}");
        Bench.Call[] refused = {() -> b.engine().type(-1), () -> b.engine().type(128), () -> b.engine().add(0, 0), () -> b.engine().add(0, 9),
            () -> b.engine().put(0, 0), () -> b.engine().put(0, 9), () -> b.engine().compile(7), () -> b.engine().render(7, 0),
            () -> b.engine().render(0, 0), () -> b.engine().render(1, 9), () -> b.engine().render(1, 0), () -> b.engine().render(2, 0),
            () -> b.engine().at(0), () -> b.engine().kind(5), () -> b.engine().size(5)};
        for (int i = 0; i < refused.length; i++) {
            Bench.answerOf(refused[i]);
            Bench.due("after refusal " + i, () -> b.engine().count(5), i + 1);
        }
        int threw = refused.length;
        b.type("{{");
        Bench.answerOf(() -> b.engine().compile(0));
        Bench.due("after a FAULT", () -> b.engine().count(5), threw + 1);
        b.compile(0, "a");
        Bench.Call[] fine = {() -> b.engine().type(0), () -> b.engine().text(), () -> b.engine().list(), () -> b.engine().map(),
            () -> b.engine().number(0), () -> b.engine().add(2, 0), () -> b.engine().compile(3), () -> b.engine().errorAt(),
            () -> b.engine().render(0, 0), () -> b.engine().at(0), () -> b.engine().kind(0), () -> b.engine().size(0),
            () -> b.engine().count(9), () -> b.put(3, "a", 0)};
        for (Bench.Call call : fine) {
            call.answer();
            Bench.due("after a call that threw nothing", () -> b.engine().count(5), threw + 1);
        }
    }

    private static void contextsBack() {
        Bench.sentence("each ../ goes one CONTEXT back (before the first one: NOTHING)");
        Sample.shows("{{n}}", "7");
        Sample.shows("[{{../n}}{{../this}}{{../../n}}]{{#with ../this}}y{{else}}no{{/with}}", "[]no");
        Sample.shows("{{#with m}}{{b}}{{../n}}[{{../../n}}{{../../this}}{{../../../this}}]{{/with}}", "-57[]");
        Sample.shows("{{#each l.3}}{{../n}}[{{../../n}}]{{/each}}", "7[]7[]");
        Sample.shows("{{#if m}}{{n}}[{{../n}}]{{/if}}", "7[]");
        Sample.shows("{{#with x}}{{else}}{{n}}[{{../n}}]{{/with}}{{#each x}}{{else}}{{n}}[{{../n}}]{{/each}}", "7[]7[]");
        Sample.shows("{{#with m}}{{/with}}{{n}}{{#each l}}{{/each}}{{n}}[{{../n}}]", "77[]");
        Sample.shows("{{" + Bench.times(65, "../") + "n}}", "");
    }

    /** 3 TEMPLATES of 4 blocks each have the most CONTEXTS that can be: 13. */
    private static void mostContextsBack() {
        Bench.sentence("(before the first one: NOTHING)");
        for (int back = 0; back <= 15; back++) {
            Bench b = new Bench();
            int x = b.engine().number(5);
            for (int i = 0; i < 12; i++) {
                x = b.list(x);
            }
            String begins = Bench.times(4, "{{#each this}}");
            String ends = Bench.times(4, "{{/each}}");
            b.compile(0, begins + "{{> b}}" + ends);
            b.compile(1, begins + "{{> c}}" + ends);
            b.compile(2, begins + "{{" + Bench.times(back, "../") + "this}}" + ends);
            Bench.due(back + " CONTEXTS back", b.render(0, x), back <= 12 ? "5" : "");
        }
    }

    private static void namesInMaps() {
        Bench.sentence("a NAME in a MAP: its DATA");
        Sample.shows("{{m.b}}{{m.c}}{{m.this}}{{l.4.b}}", "-5abc9-5");
        Bench.sentence("NOTHING if it is not so");
        String[] nothing = {"x", "m.x", "em.a", "l.a", "el.a", "n.a", "z.a", "t.a", "et.a", "l.0.a", "l.3.a", "m.b.a", "bb", "m.cc", "m.bc"};
        for (String path : nothing) {
            Sample.shows("[{{" + path + "}}]{{#with " + path + "}}y{{else}}no{{/with}}", "[]no");
        }
    }

    private static void digitsInLists() {
        Bench.sentence("its k-th, from 0; NOTHING if it is not so");
        Bench b = new Bench();
        int root = b.engine().map();
        int list = b.engine().list();
        b.put(root, "l", list);
        b.compile(0, "{{l.0}}{{l.1}}{{l.2}}{{l.3}}{{l.4}}{{l.5}}{{l.6}}{{l.7}}{{l.8}}{{l.9}}");
        b.compile(1, "{{#with l.0}}y{{else}}n{{/with}}{{#with l.9}}y{{else}}n{{/with}}");
        String all = "0123456789";
        for (int size = 0; size <= 10; size++) {
            Bench.due("a LIST of " + size, b.render(0, root), all.substring(0, size));
            Bench.due("its first and 10th", b.render(1, root), size == 0 ? "nn" : size < 10 ? "yn" : "yy");
            if (size < 10) {
                b.engine().add(list, b.engine().number(size));
            }
        }
        for (String path : new String[] {"m.0", "em.0", "n.0", "t.0", "et.0", "el.0", "l.5", "l.9", "l.3.2", "x.0"}) {
            Sample.shows("[{{" + path + "}}]{{#with " + path + "}}y{{else}}no{{/with}}", "[]no");
        }
    }

    private static void pathsOfNothing() {
        Bench.sentence("of NOTHING NOTHING.");
        for (String path : new String[] {"x.y", "x.y.z", "x.0", "x.0.1", "m.x.b", "l.9.b", "l.5.0", "../n", "../l.0", "../../m.b", "x.this"}) {
            Sample.shows("[{{" + path + "}}{{{" + path + "}}}]{{not " + path + "}}{{len " + path + "}}{{#with " + path + "}}y{{/with}}", "[]10");
        }
    }

    private static void indexWithoutEach() {
        Bench.sentence("without one NOTHING.");
        for (String word : new String[] {"@index", "@first"}) {
            String asked = "{{#with " + word + "}}y{{else}}n{{/with}}";
            Sample.shows("[{{" + word + "}}]" + asked, "[]n");
            Sample.shows("{{#with m}}" + asked + "{{/with}}{{#if n}}" + asked + "{{/if}}", "nn");
            Sample.shows("{{#each el}}{{else}}" + asked + "{{/each}}{{#each n}}{{else}}" + asked + "{{/each}}", "nn");
            Sample.shows("{{#each l.3}}{{/each}}" + asked, "n");
            Sample.shows("{{#each l.3}}{{#each l.3}}{{/each}}{{/each}}" + asked, "n");
        }
    }

    private static void indexInEveryTurn() {
        Bench.sentence("the number of the turn, from 0; 1 in the first turn, else 0");
        Bench b = new Bench();
        int ten = Sample.tenNumbers(b);
        int one = b.list(1);
        b.compile(0, "{{#each this}}{{@index}}{{@first}} {{/each}}");
        Bench.due("ten turns", b.render(0, ten), "01 10 20 30 40 50 60 70 80 90 ");
        Bench.due("one turn", b.render(0, one), "01 ");
        Bench.due("no turn", b.render(0, 1), "");
        b.compile(0, "{{#each this}}{{#if @first}}F{{else}}{{@index}}{{/if}}{{#with @index}}{{this}}{{/with}};{{/each}}");
        Bench.due("0 is no NOTHING", b.render(0, b.list(1, 1)), "F0;11;");
    }

    private static void indexOfTheInnermost() {
        Bench.sentence("@index, @first: of the innermost each that is under way in this TEMPLATE");
        Sample.shows("{{#each l.3}}{{@index}}({{#each ../m}}{{@index}}{{@first}}{{/each}}){{@index}}{{@first}};{{/each}}", "0(011020)01;1(011020)10;");
        Sample.shows("{{#each l.3}}{{#with ../m}}{{@index}}{{/with}}{{#if ../n}}{{@first}}{{/if}};{{/each}}", "01;10;");
        Sample.shows("{{#each l.3}}{{#each x}}{{else}}{{@index}}{{@first}}{{/each}};{{/each}}", "01;10;");
        Sample.shows("{{#each l.3}}{{#each ../l.3}}{{/each}}{{@index}}{{#each ../el}}{{/each}}{{@index}};{{/each}}", "00;11;");
    }

    private static void indexNotInAPartial() {
        Bench.sentence("(not in the one that it is a partial of)");
        Bench b = Sample.bench();
        b.compile(1, "[{{@index}}{{@first}}]{{#with @index}}y{{/with}}");
        Bench.due("none in the partial", b.render("{{#each l.3}}{{> b}}{{@index}}{{/each}}", 0), "[]0[]1");
        b.compile(1, "{{#each ../m}}{{@index}}{{/each}}[{{@index}}]");
        Bench.due("the partial's own", b.render("{{#each l.3}}{{> b}}{{@index}}{{@first}};{{/each}}", 0), "012[]01;012[]10;");
        b.compile(2, "<{{@index}}>");
        b.compile(1, "{{#each ../m}}{{@index}}{{> c}}{{/each}}{{> c}}");
        Bench.due("nor in the partial's partial", b.render("{{#each l.3}}{{> b}}{{@index}};{{/each}}", 0), "0<>1<>2<><>0;0<>1<>2<><>1;");
    }

    private static void upAtTheEdges() {
        Bench.sentence("up: a TEXT with a .. z as A .. Z, of others the TEXT that would be shown raw, so.");
        Bench b = new Bench();
        StringBuilder all = new StringBuilder();
        StringBuilder due = new StringBuilder();
        for (char c = 0; c <= 127; c++) {
            all.append(c);
            due.append(c >= 'a' && c <= 'z' ? (char) (c - 32) : c);
        }
        int text = b.text(all.toString());
        Bench.due("every character", b.render("{{{up this}}}", text), due);
        Bench.due("the TEXT itself stays", b.render("{{{this}}}", text).equals(all.toString()), true);
        Sample.shows("{{up \"`az{@AZ[\"}}", "`AZ{@AZ[");
        Sample.shows("{{up n}} {{up min}} {{up m}} {{up em}} {{{up l}}} {{up q}}", "7 -2147483648 [MAP] [MAP] 7,X<Y,0,0,7,[MAP] &amp;&lt;&gt;&quot;'A");
        Sample.shows("[{{up x}}{{up et}}{{up el}}{{up \"\"}}]", "[]");
        Sample.shows("{{#each l.3}}{{up @index}}{{up @first}}{{/each}}", "0110");
    }

    private static void lenAtTheEdges() {
        Bench.sentence("len: how many characters a TEXT, elements a LIST, entries a MAP has; how many characters a NUMBER is shown with; 0 for NOTHING.");
        Sample.shows("{{len et}}{{len \"\"}}{{len \"q\"}}{{len t}}{{len q}}", "00136");
        Sample.shows("{{len el}}{{len l.3}}{{len l}}{{len em}}{{len m}}{{len this}}", "0250310");
        Sample.shows("{{len z}}{{len n}}{{len m.b}} {{len min}} {{len 9}}{{len 10}}{{len 99999}}{{len 00000}}", "112 11 1251");
        Sample.shows("{{len x}}{{len ../n}}{{len @index}}{{len l.9}}", "0000");
        Bench b = new Bench();
        Bench.due("ten elements", b.render("{{len this}}", Sample.tenNumbers(b)), "10");
        Bench full = new Bench();
        Bench.due("200 characters", full.render("{{len this}}", full.text(Bench.times(200, "a"))), "200");
    }

    private static void falses() {
        Bench.sentence("FALSE are NOTHING, 0, a TEXT and a LIST without anything.");
        String[] falses = {"x", "l.9", "../n", "@index", "@first", "z", "0", "00000", "et", "\"\"", "el"};
        for (String value : falses) {
            Sample.shows("{{#if " + value + "}}y{{else}}n{{/if}}{{not " + value + "}}", "n1");
        }
        String[] trues = {"n", "m.b", "min", "1", "00001", "t", "\" \"", "\"0\"", "l", "l.3", "em", "m", "this"};
        for (String value : trues) {
            Sample.shows("{{#if " + value + "}}y{{else}}n{{/if}}{{not " + value + "}}", "y0");
        }
        Bench b = new Bench();
        int zero = b.engine().number(0);
        int holdsZero = b.list(zero);
        int holdsEmpty = b.list(b.engine().list());
        b.compile(0, "{{#if this}}y{{/if}}{{not this}}");
        Bench.due("a LIST of 0", b.render(0, holdsZero), "y0");
        Bench.due("a LIST of an empty LIST", b.render(0, holdsEmpty), "y0");
        Bench.due("-1", b.render(0, b.engine().number(-1)), "y0");
        Bench.due("a TEXT of character 0", b.render(0, b.text("\0")), "y0");
    }

    private static void wrappingSum() {
        Bench.sentence("add: the sum of two NUMBERS (wrapping)");
        int[] numbers = {Integer.MIN_VALUE, Integer.MIN_VALUE + 1, -1, 0, 1, Integer.MAX_VALUE - 1, Integer.MAX_VALUE};
        for (int i = 0; i < numbers.length; i++) {
            Bench b = new Bench();
            int root = b.engine().map();
            int list = b.engine().list();
            StringBuilder due = new StringBuilder();
            for (int number : numbers) {
                b.engine().add(list, b.engine().number(number));
                due.append(numbers[i] + number).append(' ');
            }
            b.put(root, "l", list);
            Bench.due("sums with " + numbers[i], b.render("{{#each l}}{{add this ../l." + i + "}} {{/each}}", root), due);
        }
    }

    private static void sumOfOthers() {
        Bench.sentence("else NOTHING.");
        String[] others = {"t", "et", "l", "el", "m", "em", "x", "\"1\"", "@index", "../n"};
        for (String other : others) {
            for (String sum : new String[] {"add " + other + " n", "add n " + other, "add " + other + " " + other}) {
                Sample.shows("[{{" + sum + "}}]{{#with " + sum + "}}y{{else}}no{{/with}}", "[]no");
            }
        }
        Sample.shows("{{#with add z z}}{{this}}{{else}}no{{/with}}{{add 99999 99999}}{{add 0 0}}", "01999980");
    }

    private static void eqOfAll() {
        Bench.sentence("eq: 1 if both are shown raw alike, else 0.");
        String[][] alike = {{"n", "\"7\""}, {"n", "00007"}, {"t", "\"x<y\""}, {"x", "\"\""}, {"x", "et"}, {"x", "el"}, {"x", "../n"}, {"m", "em"},
            {"m", "\"[map]\""}, {"l.3", "\"0,7\""}, {"min", "\"-2147483648\""}, {"l", "l"}, {"this", "em"}};
        for (String[] pair : alike) {
            Sample.shows("{{eq " + pair[0] + " " + pair[1] + "}}{{eq " + pair[1] + " " + pair[0] + "}}", "11");
        }
        String[][] unlike = {{"n", "8"}, {"n", "\"07\""}, {"n", "77"}, {"t", "\"x<\""}, {"t", "\"X<Y\""}, {"t", "\"x&lt;y\""}, {"x", "z"}, {"et", "\" \""},
            {"m", "\"[MAP]\""}, {"l.3", "\"0, 7\""}, {"l.3", "\"7,0\""}};
        for (String[] pair : unlike) {
            Sample.shows("{{eq " + pair[0] + " " + pair[1] + "}}{{eq " + pair[1] + " " + pair[0] + "}}", "00");
        }
    }

    private static void atAtTheEdges() {
        Bench.sentence("at: the element of the first, a LIST, with the second, a NUMBER, from 0; else NOTHING.");
        Bench b = new Bench();
        int root = b.engine().map();
        b.put(root, "l", Sample.tenNumbers(b));
        int[] asked = {Integer.MIN_VALUE, -2, -1, 10, 11, 256, Integer.MAX_VALUE};
        StringBuilder none = new StringBuilder();
        int indices = b.engine().list();
        for (int index : asked) {
            b.engine().add(indices, b.engine().number(index));
            none.append("no;");
        }
        b.put(root, "k", indices);
        Bench.due("outside", b.render("{{#each k}}{{#with at ../l this}}y{{else}}no{{/with}};{{/each}}", root), none);
        Bench.due("inside", b.render("{{#each l}}{{at ../l this}}{{at ../l @index}}{{/each}}", root), "00112233445566778899");
        Bench.due("by digits", b.render("{{at l 0}}{{at l 9}}[{{at l 10}}{{at l 99999}}]{{at l 00009}}", root), "09[]9");
        for (String other : new String[] {"at m 0", "at em 0", "at t 0", "at et 0", "at n 0", "at x 0", "at el 0", "at l t", "at l \"0\"", "at l x",
            "at l m", "at l l", "at l et", "at l @index", "at l 5", "at l min", "at l m.b", "at ../l 0"}) {
            Sample.shows("[{{" + other + "}}]{{#with " + other + "}}y{{else}}no{{/with}}", "[]no");
        }
    }

    private static void shownRaw() {
        Bench.sentence("Shown raw: a NUMBER in decimal; a TEXT as it is; a LIST: its elements shown raw with commas between; a MAP: \"[map]\"; NOTHING: nothing.");
        Sample.shows("{{{z}}} {{{n}}} {{{m.b}}} {{{min}}} {{{99999}}}", "0 7 -5 -2147483648 99999");
        Sample.shows("[{{{et}}}{{{el}}}{{{x}}}]{{{em}}}{{{m}}}{{{q}}}", "[][map][map]&<>\"'a");
        Bench b = new Bench();
        int empty = b.engine().text();
        int none = b.engine().list();
        int[] lists = {none, b.list(empty), b.list(empty, empty), b.list(none, none, none), b.list(b.list(empty, empty), none),
            b.list(b.engine().map(), b.engine().number(-1))};
        String[] due = {"", "", ",", ",,", ",,", "[map],-1"};
        b.compile(0, "{{{this}}}");
        for (int i = 0; i < lists.length; i++) {
            Bench.due("LIST " + i, b.render(0, lists[i]), due[i]);
        }
    }

    private static void shownEscaped() {
        Bench.sentence("Shown: the same with & < > \" as &amp; &lt; &gt; &quot;");
        Bench b = new Bench();
        for (int c = 0; c <= 127; c++) {
            String due = c == '&' ? "&amp;" : c == '<' ? "&lt;" : c == '>' ? "&gt;" : c == '"' ? "&quot;" : String.valueOf((char) c);
            if (c % 40 == 0) {
                b = new Bench();
                b.compile(0, "{{this}}");
            }
            Bench.due("character " + c, b.render(0, b.text(String.valueOf((char) c))), due);
        }
        Sample.shows("{{\"&amp;\"}}{{\"&&\"}}{{l}}{{up q}}", "&amp;amp;&amp;&amp;7,x&lt;y,0,0,7,[map]&amp;&lt;&gt;&quot;'A");
        Sample.shows("&<>\"{{!&<>}}", "&<>\"");
    }

    private static void ifParts() {
        Bench.sentence("if: the first part if it is not FALSE, else the other part (if any).");
        Sample.shows("{{#if n}}a{{else}}b{{/if}}{{#if z}}a{{else}}b{{/if}}", "ab");
        Sample.shows("{{#if n}}a{{/if}}{{#if z}}a{{/if}}", "a");
        Sample.shows("[{{#if n}}{{else}}b{{/if}}{{#if z}}a{{else}}{{/if}}{{#if n}}{{/if}}]", "[]");
    }

    private static void eachParts() {
        Bench.sentence("of others, and without elements, the other part.");
        for (String value : new String[] {"el", "em", "n", "z", "t", "et", "x", "\"ab\"", "3", "up l", "len l", "add n t", "@index", "../l"}) {
            Sample.shows("{{#each " + value + "}}y{{else}}n{{/each}}[{{#each " + value + "}}y{{/each}}]", "n[]");
        }
        Sample.shows("{{#each l.3}}y{{else}}n{{/each}}{{#each m}}y{{else}}n{{/each}}{{#each at l 3}}y{{/each}}", "yyyyyyy");
        Bench b = new Bench();
        int list = b.engine().list();
        b.compile(0, "{{#each this}}y{{else}}n{{/each}}");
        for (int size = 0; size <= 10; size++) {
            Bench.due("a LIST of " + size, b.render(0, list), size == 0 ? "n" : Bench.times(size, "y"));
            if (size < 10) {
                b.engine().add(list, b.engine().number(0));
            }
        }
    }

    private static void eachInOrder() {
        Bench.sentence("or of a MAP's DATA in the order in which their NAMES were first put");
        Bench b = new Bench();
        int map = b.engine().map();
        String names = "jihgfedcba";
        b.compile(0, "{{#each this}}{{this}}{{@index}} {{else}}none{{/each}}");
        Bench.due("an empty MAP", b.render(0, map), "none");
        for (int i = 0; i < 10; i++) {
            b.put(map, names.substring(i, i + 1), b.engine().number(i));
        }
        Bench.due("ten NAMES", b.render(0, map), "00 11 22 33 44 55 66 77 88 99 ");
        b.put(map, "j", 10);
        b.put(map, "a", 1);
        b.put(map, "e", 1);
        Bench.due("three put again", b.render(0, map), "90 11 22 33 44 05 66 77 88 09 ");
    }

    private static void withParts() {
        Bench.sentence("with: the first part with it as one CONTEXT more if it is not NOTHING, else the other part.");
        for (String value : new String[] {"z", "0", "et", "\"\"", "el", "em", "n", "up x", "len x", "not n", "add z z", "this"}) {
            Sample.shows("{{#with " + value + "}}y{{../n}}{{else}}n{{/with}}", "y7");
        }
        for (String value : new String[] {"x", "m.x", "l.9", "../this", "@index", "@first", "add n t", "at l 9", "at m 0"}) {
            Sample.shows("{{#with " + value + "}}y{{else}}n{{n}}[{{../n}}]{{/with}}<{{#with " + value + "}}y{{/with}}>", "n7[]<>");
        }
    }

    private static void partialsHaveAllContexts() {
        Bench.sentence("A partial is rendered for the CONTEXT here, with all CONTEXTS that there are.");
        Bench b = Sample.bench();
        b.compile(1, "{{this}}({{../n}})({{../../n}})");
        Bench.due("one CONTEXT", b.render("{{> b}}", 0), "[map]()()");
        Bench.due("two", b.render("{{#with m}}{{> b}}{{/with}}", 0), "[map](7)()");
        Bench.due("three", b.render("{{#with m}}{{#with c}}{{> b}}{{/with}}{{/with}}", 0), "abc()(7)");
        b.compile(2, "{{#with this}}{{> b}}{{/with}}");
        Bench.due("one more in the partial", b.render("{{#with n}}{{> c}}{{/with}}{{n}}", 0), "7()(7)7");
    }

    private static void whatNothingGives() {
        Bench.sentence("0 for NOTHING");
        for (String nothing : new String[] {"x", "../this", "@index", "@first", "l.9", "m.x.y"}) {
            Sample.shows("[{{" + nothing + "}}{{{" + nothing + "}}}{{up " + nothing + "}}]", "[]");
            Sample.shows("{{len " + nothing + "}}{{not " + nothing + "}}{{eq " + nothing + " \"\"}}{{eq " + nothing + " 0}}", "0110");
            Sample.shows("[{{add " + nothing + " 1}}{{add 1 " + nothing + "}}{{at l " + nothing + "}}{{at " + nothing + " 0}}]", "[]");
            Sample.shows("{{#if " + nothing + "}}y{{else}}n{{/if}}{{#each " + nothing + "}}y{{else}}n{{/each}}", "nn");
            Sample.shows("{{#with " + nothing + "}}y{{else}}n{{/with}}{{#with up " + nothing + "}}y{{else}}n{{/with}}", "ny");
        }
    }
}
