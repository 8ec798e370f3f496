/** Which exception a call throws where several fit, and that a call that throws changes nothing but what the document says. */
public final class RefusalTest {
    private static final String NOTHING_CHANGES = "one that throws changes nothing (but as compile says: THE LINE and errorAt; the TEMPLATE from before stays)";
    private static final String FIRST_IN_ITS_HEADING = "Of several exceptions that fit, a call throws the one that stands first in its heading";

    /** The DATA that rich() makes. */
    private static final int MAP = 0;
    private static final int NUMBER = 1;
    private static final int TEXT = 2;
    private static final int LIST = 3;
    private static final int NONE = 4;

    public static void main(String[] args) {
        typeChangesNothing();
        makersChangeNothing();
        addChangesNothing();
        fullAddChangesNothing();
        putChangesNothing();
        fullPutChangesNothing();
        compileChangesNothing();
        faultChangesNothingElse();
        renderChangesNothing();
        renderInBlocksChangesNothing();
        longRenderChangesNothing();
        askingChangesNothing();
        refusedAgainAndAgain();
        typeThrowsTheFirst();
        addThrowsTheFirst();
        putThrowsTheFirst();
        compileThrowsTheFirst();
        renderThrowsTheFirst();
        renderThrowsWhatIsComeToFirst();
        tagThrowsWhatIsComeToFirst();
        Bench.finish();
    }

    /** Some of everything: each kind of DATA, three TEMPLATES, a FAULT, a result and a LINE. */
    private static void rich(Bench b) {
        b.engine().map();
        b.engine().number(7);
        b.text("x<y");
        b.list(NUMBER, TEXT);
        b.put(MAP, "a", NUMBER);
        b.put(MAP, "b", LIST);
        b.compile(0, "{{#each b}}{{this}};{{/each}}{{a}}");
        b.compile(1, "{{> a}}{{> d}}");
        b.compile(2, "c{{> c}}");
        b.type("ab{{");
        Bench.answerOf(() -> b.engine().compile(3));
        b.engine().render(0, MAP);
        b.type("k");
    }

    private static Bench.Steps richAnd(Bench.Steps more) {
        return b -> {
            rich(b);
            more.on(b);
        };
    }

    private static void typeChangesNothing() {
        Bench.sentence(NOTHING_CHANGES);
        for (int c : new int[] {Integer.MIN_VALUE, -1, 128, Integer.MAX_VALUE}) {
            Refusal.due("type(" + c + ")", RefusalTest::rich, e -> e.type(c), Bench.BAD_ARGUMENT);
        }
        Refusal.due("type at 200", richAnd(b -> b.type(Bench.times(199, "k"))), e -> e.type('z'), Bench.BAD_STATE);
        Refusal.due("type(128) at 200", richAnd(b -> b.type(Bench.times(199, "k"))), e -> e.type(128), Bench.BAD_ARGUMENT);
    }

    private static void sixty(Bench b) {
        rich(b);
        for (int x = NONE; x < 60; x++) {
            b.engine().number(x);
        }
    }

    private static void makersChangeNothing() {
        Bench.sentence(NOTHING_CHANGES);
        Refusal.due("number at 60", RefusalTest::sixty, e -> e.number(3), Bench.BAD_STATE);
        Refusal.due("text at 60", RefusalTest::sixty, e -> e.text(), Bench.BAD_STATE);
        Refusal.due("list at 60", RefusalTest::sixty, e -> e.list(), Bench.BAD_STATE);
        Refusal.due("map at 60", RefusalTest::sixty, e -> e.map(), Bench.BAD_STATE);
    }

    private static void addChangesNothing() {
        Bench.sentence(NOTHING_CHANGES);
        Refusal.due("no such LIST", RefusalTest::rich, e -> e.add(NONE, NUMBER), Bench.NO_ELEMENT);
        Refusal.due("no such element", RefusalTest::rich, e -> e.add(LIST, NONE), Bench.NO_ELEMENT);
        Refusal.due("no such element", RefusalTest::rich, e -> e.add(LIST, -1), Bench.NO_ELEMENT);
        Refusal.due("into a MAP", RefusalTest::rich, e -> e.add(MAP, NUMBER), Bench.BAD_ARGUMENT);
        Refusal.due("into a NUMBER", RefusalTest::rich, e -> e.add(NUMBER, TEXT), Bench.BAD_ARGUMENT);
        Refusal.due("into a TEXT", RefusalTest::rich, e -> e.add(TEXT, NUMBER), Bench.BAD_ARGUMENT);
        Refusal.due("into itself", RefusalTest::rich, e -> e.add(LIST, LIST), Bench.BAD_ARGUMENT);
        Refusal.due("the MAP that it is in", RefusalTest::rich, e -> e.add(LIST, MAP), Bench.BAD_ARGUMENT);
    }

    private static void fullList(Bench b) {
        rich(b);
        for (int size = 2; size < 10; size++) {
            b.engine().add(LIST, NUMBER);
        }
    }

    private static void fullAddChangesNothing() {
        Bench.sentence(NOTHING_CHANGES);
        Refusal.due("an 11th", RefusalTest::fullList, e -> e.add(LIST, TEXT), Bench.BAD_STATE);
        Refusal.due("an 11th that is not there", RefusalTest::fullList, e -> e.add(LIST, NONE), Bench.NO_ELEMENT);
        Refusal.due("itself as the 11th", RefusalTest::fullList, e -> e.add(LIST, LIST), Bench.BAD_ARGUMENT);
    }

    private static void putChangesNothing() {
        Bench.sentence(NOTHING_CHANGES);
        Refusal.due("no such MAP", RefusalTest::rich, e -> e.put(NONE, NUMBER), Bench.NO_ELEMENT);
        Refusal.due("no such DATA", RefusalTest::rich, e -> e.put(MAP, NONE), Bench.NO_ELEMENT);
        Refusal.due("no such DATA", RefusalTest::rich, e -> e.put(MAP, -1), Bench.NO_ELEMENT);
        Refusal.due("into a LIST", RefusalTest::rich, e -> e.put(LIST, NUMBER), Bench.BAD_ARGUMENT);
        Refusal.due("into a NUMBER", RefusalTest::rich, e -> e.put(NUMBER, TEXT), Bench.BAD_ARGUMENT);
        Refusal.due("into a TEXT", RefusalTest::rich, e -> e.put(TEXT, NUMBER), Bench.BAD_ARGUMENT);
        Refusal.due("into itself", RefusalTest::rich, e -> e.put(MAP, MAP), Bench.BAD_ARGUMENT);
        Refusal.due("no NAME", richAnd(b -> b.type("K")), e -> e.put(MAP, NUMBER), Bench.BAD_ARGUMENT);
        Refusal.due("a NAME too long", richAnd(b -> b.type("klmnopqr")), e -> e.put(MAP, NUMBER), Bench.BAD_ARGUMENT);
        Refusal.due("no LINE", richAnd(b -> b.engine().text()), e -> e.put(MAP, NUMBER), Bench.BAD_ARGUMENT);
        Bench.Steps renamed = richAnd(b -> {
            b.engine().text();
            b.type("a");
        });
        Refusal.due("a NAME that it has, for itself", renamed, e -> e.put(MAP, MAP), Bench.BAD_ARGUMENT);
        Refusal.due("a NAME that it has, for none", renamed, e -> e.put(MAP, 9), Bench.NO_ELEMENT);
    }

    private static void fullMap(Bench b) {
        rich(b);
        b.engine().text();
        for (char name = 'c'; name <= 'j'; name++) {
            b.put(MAP, String.valueOf(name), TEXT);
        }
    }

    private static Bench.Steps fullMapAnd(String line) {
        return b -> {
            fullMap(b);
            b.type(line);
        };
    }

    private static void fullPutChangesNothing() {
        Bench.sentence(NOTHING_CHANGES);
        Refusal.due("an 11th NAME", fullMapAnd("k"), e -> e.put(MAP, NUMBER), Bench.BAD_STATE);
        Refusal.due("an 11th NAME for itself", fullMapAnd("k"), e -> e.put(MAP, MAP), Bench.BAD_ARGUMENT);
        Refusal.due("an 11th NAME for none", fullMapAnd("k"), e -> e.put(MAP, 9), Bench.NO_ELEMENT);
        Refusal.due("an 11th that is no NAME", fullMapAnd("k1"), e -> e.put(MAP, NUMBER), Bench.BAD_ARGUMENT);
        Refusal.due("one of the 10 for itself", fullMapAnd("c"), e -> e.put(MAP, MAP), Bench.BAD_ARGUMENT);
    }

    private static void compileChangesNothing() {
        Bench.sentence(NOTHING_CHANGES);
        for (int k : new int[] {Integer.MIN_VALUE, -1, 4, Integer.MAX_VALUE}) {
            Refusal.due("compile(" + k + ")", RefusalTest::rich, e -> e.compile(k), Bench.BAD_INDEX);
            Refusal.due("compile(" + k + ") of a FAULT", richAnd(b -> b.type("{{")), e -> e.compile(k), Bench.BAD_INDEX);
        }
        Refusal.due("compile(4) of a full LINE", richAnd(b -> b.type(Bench.times(199, "k"))), e -> e.compile(4), Bench.BAD_INDEX);
    }

    private static void faultChangesNothingElse() {
        Bench.sentence(NOTHING_CHANGES);
        for (String faulty : new String[] {"{{", "{{A}}", "{{else}}", "{{#if a}}", "{{#if a}}{{a}}{{/each}}"}) {
            for (int k = 0; k < 4; k++) {
                int template = k;
                Bench.Steps before = richAnd(b -> b.type(faulty));
                Refusal.faultDue("compile(" + k + ") of " + faulty, before, e -> e.compile(template), Bench.BAD_ARGUMENT);
                Bench b = Bench.after(before);
                Bench.answerOf(() -> b.engine().compile(template));
                Bench.due("THE LINE", () -> b.engine().count(1), 0);
                Bench.due("errorAt", () -> b.engine().errorAt(), faulty.endsWith("/each}}") ? 15 : 1);
            }
        }
    }

    private static void renderChangesNothing() {
        Bench.sentence(NOTHING_CHANGES);
        for (int k : new int[] {Integer.MIN_VALUE, -1, 4, Integer.MAX_VALUE}) {
            Refusal.due("render(" + k + ", 0)", RefusalTest::rich, e -> e.render(k, MAP), Bench.BAD_INDEX);
        }
        Refusal.due("no such TEMPLATE", RefusalTest::rich, e -> e.render(3, MAP), Bench.NO_ELEMENT);
        Refusal.due("no such DATA", RefusalTest::rich, e -> e.render(0, NONE), Bench.NO_ELEMENT);
        Refusal.due("no such DATA", RefusalTest::rich, e -> e.render(0, -1), Bench.NO_ELEMENT);
        Refusal.due("no such partial", RefusalTest::rich, e -> e.render(1, MAP), Bench.NO_ELEMENT);
        Refusal.due("a 4th TEMPLATE", RefusalTest::rich, e -> e.render(2, MAP), Bench.BAD_DEPTH);
    }

    /** What was under way when it threw is not under way in the next render: turns, CONTEXTS and TEMPLATES. */
    private static void renderInBlocksChangesNothing() {
        Bench.sentence(NOTHING_CHANGES);
        String[][] thrown = {{"{{#each this}}{{#with up this}}{{> d}}{{/with}}{{/each}}", Bench.NO_ELEMENT},
            {"{{#each this}}{{#if @index}}{{#with ../this}}{{> b}}{{/with}}{{/if}}{{/each}}", Bench.BAD_DEPTH}};
        for (String[] pair : thrown) {
            Bench.Steps before = b -> {
                int list = b.list(b.engine().number(5), b.text("t"));
                b.compile(0, "{{@index}}{{@first}}[{{../this}}]{{this}}{{> c}}");
                b.compile(1, pair[0]);
                b.compile(2, "({{@index}})");
                b.engine().render(0, list);
            };
            Refusal.due(pair[0], before, e -> e.render(1, 2), pair[1]);
        }
    }

    private static void longRenderChangesNothing() {
        Bench.sentence("What was rendered before stays, if it throws.");
        Bench.Steps longText = b -> {
            int list = Sample.longList(b, 401);
            b.compile(0, "{{len this}}{{#with up \"before\"}}{{this}}{{/with}}");
            b.engine().render(0, list);
        };
        Bench.Steps shown = b -> {
            longText.on(b);
            b.compile(3, "{{#each this}}a{{../this}}{{/each}}");
        };
        Refusal.due("a result too long", shown, e -> e.render(3, 2), Bench.BAD_STATE);
        Bench.Steps forHelper = b -> {
            longText.on(b);
            b.compile(3, "{{#with this}}a{{#if eq this 1}}{{/if}}{{/with}}");
        };
        Refusal.due("a text too long for a HELPER", forHelper, e -> e.render(3, 2), Bench.BAD_STATE);
        Bench.Steps tags = b -> {
            int text = b.engine().text();
            int list = b.list(text, text, text, text, text, text, text, text, text, text);
            int lists = b.list(list, list, list, list, list, list, list, list, list, list);
            b.compile(0, "before{{!}}");
            b.engine().render(0, lists);
            b.compile(3, "{{#each this}}{{#each this}}" + Bench.times(6, "{{!}}") + "{{/each}}{{/each}}");
        };
        Refusal.due("a 601st TAG", tags, e -> e.render(3, 2), Bench.BAD_STATE);
    }

    private static void askingChangesNothing() {
        Bench.sentence(NOTHING_CHANGES);
        for (int x : new int[] {Integer.MIN_VALUE, -1, NONE, Integer.MAX_VALUE}) {
            Refusal.due("kind(" + x + ")", RefusalTest::rich, e -> e.kind(x), Bench.NO_ELEMENT);
            Refusal.due("size(" + x + ")", RefusalTest::rich, e -> e.size(x), Bench.NO_ELEMENT);
        }
        int length = Bench.after(RefusalTest::rich).engine().count(3);
        for (int i : new int[] {Integer.MIN_VALUE, -1, length, Integer.MAX_VALUE}) {
            Refusal.due("at(" + i + ")", RefusalTest::rich, e -> e.at(i), Bench.BAD_INDEX);
        }
        Refusal.due("at(0) of no result", b -> b.engine().number(1), e -> e.at(0), Bench.BAD_INDEX);
    }

    private static void refusedAgainAndAgain() {
        Bench.sentence(NOTHING_CHANGES);
        Bench.Ask[] refused = {e -> e.type(-1), e -> e.add(LIST, LIST), e -> e.put(MAP, MAP), e -> e.compile(4), e -> e.render(1, MAP),
            e -> e.render(2, MAP), e -> e.at(-1), e -> e.kind(-1), e -> e.size(-1)};
        Bench.Steps often = richAnd(b -> {
            for (int times = 0; times < 10; times++) {
                for (Bench.Ask call : refused) {
                    Bench.answerOf(() -> call.of(b.engine()));
                }
            }
        });
        Bench b = Bench.after(often);
        Bench.due("calls that threw, with the FAULT", () -> b.engine().count(5), 10 * refused.length + 1);
        Bench.due("what was rendered", b.rendered(), "7;x&lt;y;7");
        Bench.due("a NAME from before", () -> b.engine().put(MAP, NUMBER), 3);
        Bench.due("a render", b.render(0, MAP), "7;x&lt;y;7");
        Refusal.due("the last of many", often, e -> e.render(2, MAP), Bench.BAD_DEPTH);
    }

    private static void typeThrowsTheFirst() {
        Bench.sentence(FIRST_IN_ITS_HEADING);
        Bench b = Bench.after(to -> to.type(Bench.times(199, "a")));
        Bench.due("type(128) at 199", () -> b.engine().type(128), Bench.BAD_ARGUMENT);
        Bench.due("type(127) at 199", () -> b.engine().type(127), 200);
        Bench.due("type(127) at 200", () -> b.engine().type(127), Bench.BAD_STATE);
        Bench.due("type(0) at 200", () -> b.engine().type(0), Bench.BAD_STATE);
        Bench.due("type(128) at 200", () -> b.engine().type(128), Bench.BAD_ARGUMENT);
        Bench.due("type(-1) at 200", () -> b.engine().type(-1), Bench.BAD_ARGUMENT);
    }

    private static void throwsOf(String what, Bench.Steps before, Bench.Ask call, String exception) {
        Bench b = Bench.after(before);
        Bench.due(what, () -> call.of(b.engine()), exception);
    }

    private static void addThrowsTheFirst() {
        Bench.sentence(FIRST_IN_ITS_HEADING);
        throwsOf("no LIST, no element", RefusalTest::rich, e -> e.add(MAP, NONE), Bench.NO_ELEMENT);
        throwsOf("no LIST, no element", RefusalTest::rich, e -> e.add(NUMBER, -1), Bench.NO_ELEMENT);
        throwsOf("neither is there", RefusalTest::rich, e -> e.add(NONE, NONE), Bench.NO_ELEMENT);
        throwsOf("full, no element", RefusalTest::fullList, e -> e.add(LIST, NONE), Bench.NO_ELEMENT);
        throwsOf("full, itself", RefusalTest::fullList, e -> e.add(LIST, LIST), Bench.BAD_ARGUMENT);
        throwsOf("full, the MAP that it is in", RefusalTest::fullList, e -> e.add(LIST, MAP), Bench.BAD_ARGUMENT);
        throwsOf("full", RefusalTest::fullList, e -> e.add(LIST, NUMBER), Bench.BAD_STATE);
        throwsOf("a full MAP is no LIST", RefusalTest::fullMap, e -> e.add(MAP, NUMBER), Bench.BAD_ARGUMENT);
    }

    private static void putThrowsTheFirst() {
        Bench.sentence(FIRST_IN_ITS_HEADING);
        Bench.Steps noName = richAnd(b -> b.type("1"));
        throwsOf("no MAP, no DATA, no NAME", noName, e -> e.put(LIST, NONE), Bench.NO_ELEMENT);
        throwsOf("no DATA, no NAME", noName, e -> e.put(MAP, NONE), Bench.NO_ELEMENT);
        throwsOf("no MAP that is there, no NAME", noName, e -> e.put(NONE, NUMBER), Bench.NO_ELEMENT);
        throwsOf("no MAP, no NAME", noName, e -> e.put(LIST, NUMBER), Bench.BAD_ARGUMENT);
        throwsOf("itself, no NAME", noName, e -> e.put(MAP, MAP), Bench.BAD_ARGUMENT);
        throwsOf("full, no DATA", fullMapAnd("k"), e -> e.put(MAP, 9), Bench.NO_ELEMENT);
        throwsOf("full, no DATA, no NAME", fullMapAnd("K"), e -> e.put(MAP, 9), Bench.NO_ELEMENT);
        throwsOf("full, itself", fullMapAnd("k"), e -> e.put(MAP, MAP), Bench.BAD_ARGUMENT);
        throwsOf("full, no NAME", fullMapAnd("K"), e -> e.put(MAP, NUMBER), Bench.BAD_ARGUMENT);
        throwsOf("full, an empty LINE", fullMapAnd(""), e -> e.put(MAP, NUMBER), Bench.BAD_ARGUMENT);
        throwsOf("full, 9 letters", fullMapAnd("kkkkkkkkk"), e -> e.put(MAP, NUMBER), Bench.BAD_ARGUMENT);
        throwsOf("full, 8 letters", fullMapAnd("kkkkkkkk"), e -> e.put(MAP, NUMBER), Bench.BAD_STATE);
        throwsOf("a full LIST is no MAP", RefusalTest::fullList, e -> e.put(LIST, NUMBER), Bench.BAD_ARGUMENT);
    }

    private static void compileThrowsTheFirst() {
        Bench.sentence(FIRST_IN_ITS_HEADING);
        Bench.Steps faulty = b -> b.type("{{");
        throwsOf("no such k, a FAULT", faulty, e -> e.compile(4), Bench.BAD_INDEX);
        throwsOf("no such k, a FAULT", faulty, e -> e.compile(-1), Bench.BAD_INDEX);
        throwsOf("a FAULT", faulty, e -> e.compile(3), Bench.BAD_ARGUMENT);
        throwsOf("no such k", b -> b.type("a"), e -> e.compile(4), Bench.BAD_INDEX);
    }

    private static void renderThrowsTheFirst() {
        Bench.sentence(FIRST_IN_ITS_HEADING);
        throwsOf("no such k, no DATA", RefusalTest::rich, e -> e.render(4, NONE), Bench.BAD_INDEX);
        throwsOf("no such k, no DATA", b -> b.type("a"), e -> e.render(-1, -1), Bench.BAD_INDEX);
        throwsOf("no TEMPLATE, no DATA", RefusalTest::rich, e -> e.render(3, NONE), Bench.NO_ELEMENT);
        throwsOf("no DATA, a 4th TEMPLATE", RefusalTest::rich, e -> e.render(2, NONE), Bench.NO_ELEMENT);
        throwsOf("no DATA, no partial", RefusalTest::rich, e -> e.render(1, -1), Bench.NO_ELEMENT);
    }

    private static void renderThrowsWhatIsComeToFirst() {
        Bench.sentence("while a TEMPLATE is rendered, what is come to first is thrown.");
        String full = "{{this}}{{this}}{{this}}";
        String[][] pairs = {{full + "{{> d}}", Bench.BAD_STATE}, {"{{> d}}" + full, Bench.NO_ELEMENT}, {full + "{{> a}}", Bench.BAD_STATE},
            {"{{> a}}" + full, Bench.BAD_DEPTH}, {"{{> a}}{{> d}}", Bench.BAD_DEPTH}, {"{{> d}}{{> a}}", Bench.NO_ELEMENT},
            {"{{this}}{{> a}}", Bench.BAD_STATE}, {"{{> b}}{{> d}}", Bench.BAD_STATE}, {"{{#if x}}{{> d}}{{else}}{{> a}}{{/if}}", Bench.BAD_DEPTH},
            {"{{#if this}}{{> d}}{{else}}{{> a}}{{/if}}", Bench.NO_ELEMENT}, {"{{#with this}}" + full + "{{> d}}{{/with}}", Bench.BAD_STATE}};
        for (String[] pair : pairs) {
            Bench b = new Bench();
            b.text(Bench.times(150, "a"));
            b.compile(1, full);
            Bench.due(pair[0], b.render(pair[0], 0), pair[1]);
        }
    }

    /** A partial that is the 601st TAG is not come to, so it is not asked whether it is there. */
    private static void tagThrowsWhatIsComeToFirst() {
        Bench.sentence("a 601st TAG would be come to");
        for (int remarks = 17; remarks <= 18; remarks++) {
            Bench b = new Bench();
            int list = Sample.tenNumbers(b);
            b.compile(1, Bench.times(28, "{{!}}"));
            b.compile(0, Bench.times(2, "{{#each this}}{{> b}}{{/each}}") + Bench.times(remarks, "{{!}}") + "{{> d}}");
            Bench.due("TAG " + (583 + remarks) + " is no partial", b.render(0, list), remarks == 17 ? Bench.NO_ELEMENT : Bench.BAD_STATE);
        }
    }
}
