/** Promises 11, 12 and 15: what is rendered, what is refused, and what is counted. */
public final class RenderTest {
    public static void main(String[] args) {
        plainAndShown();
        paths();
        literals();
        upAndLen();
        notAndIf();
        addEqAt();
        each();
        with();
        contexts();
        indexAndFirst();
        partials();
        reckonedContextsLast();
        wrongArguments();
        partialRefusals();
        longestResult();
        longestHelperText();
        endlessLists();
        tagLimit();
        firstRefusalIsThrown();
        lastResultStays();
        deepestNesting();
        counts();
        Bench.finish();
    }

    /** Number 0 is the map that holds the others by their names. */
    private static Bench sample() {
        Bench b = new Bench();
        int root = b.engine.map();
        int seven = b.engine.number(7);
        int zero = b.engine.number(0);
        int text = b.text("x<y");
        int map = b.engine.map();
        int list = b.list(seven, text, zero, b.list(zero, seven), map);
        b.put(root, "n", seven);
        b.put(root, "z", zero);
        b.put(root, "t", text);
        b.put(root, "m", map);
        b.put(root, "l", list);
        b.put(map, "b", b.engine.number(-5));
        b.put(map, "c", b.text("abc"));
        b.put(map, "this", b.engine.number(9));
        b.put(root, "et", b.engine.text());
        b.put(root, "el", b.engine.list());
        b.put(root, "em", b.engine.map());
        b.put(root, "min", b.engine.number(Integer.MIN_VALUE));
        b.put(root, "q", b.text("&<>\"'a"));
        return b;
    }

    private static void shows(String template, String want) {
        Bench.due(template, sample().render(template, 0), want);
    }

    private static void plainAndShown() {
        shows("", "");
        shows("a & \"b\" <c> }} {", "a & \"b\" <c> }} {");
        shows("{{n}}", "7");
        shows("{{min}} {{z}} {{m.b}}", "-2147483648 0 -5");
        shows("{{q}}|{{{q}}}", "&amp;&lt;&gt;&quot;'a|&<>\"'a");
        shows("{{l}}|{{{l}}}", "7,x&lt;y,0,0,7,[map]|7,x<y,0,0,7,[map]");
        shows("{{m}}{{em}}", "[map][map]");
        shows("[{{et}}{{el}}{{x}}{{{x}}}]", "[]");
        shows("a{{!n}}b{{! {{ }}c", "abc");
        shows("{{n}}}{{{n}}}}", "7}7}");
    }

    private static void paths() {
        shows("{{m.b}}{{m.c}}{{m.this}}", "-5abc9");
        shows("{{l.0}}{{l.3.1}}{{l.4.c}}", "77abc");
        shows("[{{l.5}}{{l.9}}{{el.0}}{{l.b}}{{m.0}}{{n.a}}{{n.0}}{{t.a}}{{t.0}}{{x.y.z}}{{m.x.y}}]", "[]");
        shows("{{this}}", "[map]");
        shows("[{{../this}}{{../n}}{{../../../n}}]", "[]");
        shows("{{up}}{{len}}{{at.this}}", "");
    }

    private static void literals() {
        shows("{{12345}}{{007}}{{0}}", "1234570");
        shows("{{\"a<b\"}}{{{\"a<b\"}}}{{\"\"}}{{\" {{ \"}}", "a&lt;ba<b {{ ");
        shows("{{#with \"s\"}}{{this}}{{len this}}{{/with}}{{#with 5}}{{add this this}}{{/with}}", "s110");
    }

    private static void upAndLen() {
        shows("{{up t}} {{{up t}}} {{up n}} {{up m}} {{{up l}}}", "X&lt;Y X<Y 7 [MAP] 7,X<Y,0,0,7,[MAP]");
        shows("[{{up x}}{{up et}}{{up el}}]", "[]");
        shows("{{up \"`az{AZ@[\"}}", "`AZ{AZ@[");
        shows("{{#with up x}}text{{else}}nothing{{/with}}", "text");
        shows("{{len t}}{{len l}}{{len m}}{{len n}}{{len m.b}}{{len x}}{{len et}}{{len el}}{{len em}}{{len 007}}", "3531200001");
        shows("{{len min}} {{len q}} {{len \"\"}} {{len @index}}", "11 6 0 0");
    }

    private static void notAndIf() {
        String[] falses = {"x", "z", "et", "el", "0", "000", "\"\"", "@index", "@first", "not n", "len x", "add n t", "at l 9", "up x"};
        for (String value : falses) {
            shows("{{#if " + value + "}}yes{{else}}no{{/if}}", "no");
            shows("{{#if " + value + "}}yes{{/if}}", "");
            if (value.indexOf(' ') < 0) {
                shows("{{not " + value + "}}", "1");
            }
        }
        String[] trues = {"n", "m", "em", "t", "l", "min", "\"0\"", "\" \"", "1", "not x", "len n", "add n 1", "at l 0", "up n"};
        for (String value : trues) {
            shows("{{#if " + value + "}}yes{{else}}no{{/if}}", "yes");
            shows("{{#if " + value + "}}yes{{/if}}", "yes");
            if (value.indexOf(' ') < 0) {
                shows("{{not " + value + "}}", "0");
            }
        }
        shows("{{#if m}}{{m.b}}{{../n}}{{/if}}", "-5");
    }

    private static void addEqAt() {
        shows("{{add n m.b}} {{add min min}} {{add min 1}} {{add 99999 99999}}", "2 0 -2147483647 199998");
        shows("[{{add n t}}{{add t n}}{{add n x}}{{add x n}}{{add l l}}{{add \"1\" \"2\"}}{{add m m}}]", "[]");
        shows("{{eq n 7}}{{eq n \"7\"}}{{eq 007 7}}{{eq t \"x<y\"}}{{eq x \"\"}}{{eq el x}}{{eq m em}}{{eq m \"[map]\"}}", "11111111");
        shows("{{eq n 8}}{{eq t \"x<z\"}}{{eq t \"x<\"}}{{eq z x}}{{eq \"a\" \"A\"}}", "00000");
        shows("{{eq l l}}{{eq l.3 \"0,7\"}}{{eq l \"7\"}}", "110");
        shows("{{at l 0}}{{at l.3 1}}{{at l z}}", "777");
        shows("[{{at l 5}}{{at l m.b}}{{at l min}}{{at l \"0\"}}{{at l x}}{{at m 0}}{{at t 0}}{{at x 0}}{{at el 0}}{{at n n}}]", "[]");
        shows("{{#with at l 4}}{{c}}{{/with}}{{#each at l 3}}{{this}};{{/each}}", "abc0;7;");
    }

    private static void each() {
        shows("{{#each l}}<{{this}}>{{/each}}", "<7><x&lt;y><0><0,7><[map]>");
        shows("{{#each m}}{{this}};{{/each}}", "-5;abc;9;");
        for (String value : new String[] {"el", "em", "n", "t", "x", "z", "\"ab\"", "up l", "3"}) {
            shows("{{#each " + value + "}}yes{{else}}no{{/each}}", "no");
            shows("{{#each " + value + "}}yes{{/each}}", "");
        }
        shows("{{#each l}}{{#each this}}{{this}}{{else}}-{{/each}};{{/each}}", "-;-;-;07;-5abc9;");
        shows("{{#each l}}x{{else}}y{{/each}}", "xxxxx");
    }

    private static void with() {
        shows("{{#with m}}{{b}}{{c}}{{else}}no{{/with}}", "-5abc");
        for (String value : new String[] {"z", "et", "el", "em", "n", "0", "\"\"", "up x", "not n", "len x"}) {
            shows("{{#with " + value + "}}yes{{else}}no{{/with}}", "yes");
        }
        for (String value : new String[] {"x", "m.x", "@index", "add n t", "at l 9", "../this"}) {
            shows("{{#with " + value + "}}yes{{else}}no{{/with}}", "no");
            shows("{{#with " + value + "}}yes{{/with}}", "");
        }
        shows("{{#with x}}{{else}}{{n}}{{/with}}{{#each x}}{{else}}{{n}}{{/each}}", "77");
    }

    private static void contexts() {
        shows("{{#with m}}{{#with c}}{{this}}{{../b}}{{../../n}}[{{../../../n}}]{{/with}}{{/with}}{{n}}", "abc-57[]7");
        shows("{{#with m}}{{#if b}}{{b}}{{../n}}{{/if}}[{{n}}]{{/with}}", "-57[]");
        shows("{{#each l.3}}{{this}}{{../n}}{{../l.0}};{{/each}}", "077;777;");
        shows("{{#with m}}{{#with x}}{{else}}{{b}}{{../n}}{{/with}}{{/with}}", "-57");
        shows("{{#with ../x}}{{else}}none{{/with}}", "none");
    }

    private static void indexAndFirst() {
        shows("{{#each l}}{{@index}}{{@first}} {{/each}}", "01 10 20 30 40 ");
        shows("[{{@index}}{{@first}}{{#with m}}{{@index}}{{/with}}{{#each x}}{{else}}{{@index}}{{/each}}]", "[]");
        shows("{{#each l.3}}{{@index}}{{#each ../l.3}}{{@index}}{{@first}}{{/each}}{{@index}}{{@first}};{{/each}}", "0011001;1011010;");
        shows("{{#each l.3}}{{#with ../m}}{{@index}}{{/with}}{{#each x}}{{else}}{{@index}}{{/each}}{{/each}}[{{@index}}]", "0011[]");
        shows("{{#each m}}{{@index}}{{add @index @index}}{{eq @index @first}}{{len @index}}{{up @first}};{{/each}}", "00011;12010;24010;");
        shows("{{#each l.3}}{{#with @index}}{{this}}{{@first}}{{/with}}{{at ../l @index}};{{/each}}", "017;10x&lt;y;");
        shows("{{#each l.3}}{{add @index @first}}{{add 5 @index}}{{add @first 5}};{{/each}}", "156;165;");
    }

    private static void partials() {
        Bench b = sample();
        b.compile(1, "<{{this}}{{@index}}{{@first}}{{../n}}{{#each ../l.3}}{{@index}}{{/each}}>");
        Bench.due("each in the partial alone", b.render("{{#each l.3}}{{> b}}{{@index}}{{/each}}", 0), "<0701>0<7701>1");
        b.compile(1, "{{c}}{{../n}}");
        Bench.due("a partial has the contexts", b.render("{{#with m}}{{> b}}{{/with}}[{{> b}}]", 0), "abc7[]");
        b.compile(2, "c{{> d}}");
        b.compile(3, "d");
        b.compile(1, "b{{> c}}{{> d}}");
        Bench.due("three in one another", b.render("a{{> c}}{{> d}}", 0), "acdd");
        Bench.due("three in one another", b.render(1, 0), "bcdd");
        b.compile(0, "{{this}}{{#each this}}{{> a}}{{/each}};");
        Bench.due("in itself, twice", b.render(0, 11), ";");
        int inner = b.list(1);
        Bench.due("in itself, twice", b.render(0, b.list(inner)), "777;;;");
    }

    private static void reckonedContextsLast() {
        shows("{{#with up t}}{{#with up \"in\"}}{{{../this}}}{{this}}{{up \"q\"}}{{../../n}}{{{../this}}}{{/with}}{{{this}}}{{/with}}",
                "X<YINQ7X<YX<Y");
        shows("{{#with add 1 2}}{{add 4 5}}{{#if not x}}{{not x}}{{this}}{{/if}}{{this}}{{/with}}", "9133");
        shows("{{#with up t}}{{{up \"in\"}}}{{{add 1 2}}}{{{this}}}{{/with}}", "IN3X<Y");
        Bench b = sample();
        b.compile(1, "{{up \"zz\"}}{{#with len this}}{{this}}{{../this}}{{/with}}");
        Bench.due("over a partial", b.render("{{#with up t}}{{> b}}{{{this}}}{{/with}}", 0), "ZZ3X&lt;YX<Y");
    }

    private static void wrongArguments() {
        Bench b = new Bench();
        Bench.due("render(4, 0)", b.render(4, 0), Bench.BAD_INDEX);
        Bench.due("render(-1, 0)", b.render(-1, 0), Bench.BAD_INDEX);
        b.engine.number(1);
        Bench.due("no template", b.render(0, 0), Bench.NO_ELEMENT);
        b.compile(0, "a");
        Bench.due("no data", b.render(0, 1), Bench.NO_ELEMENT);
        Bench.due("no data", b.render(0, -1), Bench.NO_ELEMENT);
        Bench.due("index before element", b.render(4, 1), Bench.BAD_INDEX);
        Bench.due("render", b.render(0, 0), "a");
        Bench.due("at(0)", () -> b.engine.at(0), (int) 'a');
        Bench.due("at(1)", () -> b.engine.at(1), Bench.BAD_INDEX);
        Bench.due("at(-1)", () -> b.engine.at(-1), Bench.BAD_INDEX);
    }

    private static void partialRefusals() {
        Bench b = sample();
        Bench.due("no such partial", b.render("a{{> d}}", 0), Bench.NO_ELEMENT);
        Bench.due("not come to", b.render("a{{#if x}}{{> d}}{{/if}}", 0), "a");
        Bench.due("a template in itself", b.render("{{> a}}", 0), Bench.BAD_DEPTH);
        b.compile(1, "{{> c}}");
        b.compile(2, "{{> d}}");
        Bench.due("the 4th is not there", b.render("{{> b}}", 0), Bench.NO_ELEMENT);
        b.compile(3, "d");
        Bench.due("the 4th is there", b.render("{{> b}}", 0), Bench.BAD_DEPTH);
        Bench.due("three", b.render(1, 0), "d");
    }

    private static void longestResult() {
        Bench b = new Bench();
        b.text(Bench.times(100, "a"));
        b.text("<");
        b.compile(1, Bench.times(99, "b"));
        Bench.due("400", b.render("{{this}}{{this}}{{this}}{{this}}", 0), Bench.times(400, "a"));
        Bench.due("one plain too many", b.render("{{this}}{{this}}{{this}}{{this}}b", 0), Bench.BAD_STATE);
        Bench.due("one shown too many", b.render("{{this}}{{this}}{{this}}{{this}}{{1}}", 0), Bench.BAD_STATE);
        Bench.due("nothing more", b.render("{{this}}{{this}}{{this}}{{this}}{{!}}{{x}}", 0), Bench.times(400, "a"));
        Bench c = new Bench();
        c.text(Bench.times(97, "<"));
        Bench.due("escapes fit", c.render("{{this}}1234567{{\"&\"}}", 0), Bench.times(97, "&lt;") + "1234567&amp;");
        Bench.due("an escape that fits in part", c.render("{{this}}12345678{{\"&\"}}", 0), Bench.BAD_STATE);
        Bench.due("raw is shorter", c.render("{{this}}1234567{{{\"&&&&&\"}}}", 0).length(), 400);
    }

    private static void longestHelperText() {
        Bench b = new Bench();
        int part = b.text(Bench.times(99, "a"));
        int list = b.list(part, part, part, part);
        int longer = b.list(list, b.engine.text());
        int longest = b.list(longer, b.engine.text());
        Bench.due("399 for up", b.render("{{#with up this}}{{len this}}{{/with}}", list), "399");
        Bench.due("400 for up", b.render("{{#with up this}}{{len this}}{{/with}}", longer), "400");
        Bench.due("401 for up", b.render("{{#with up this}}{{/with}}", longest), Bench.BAD_STATE);
        Bench.due("400 for eq", b.render("{{eq this this}}{{eq this 1}}{{eq 1 this}}", longer), "100");
        Bench.due("401 for eq", b.render("{{eq this 1}}", longest), Bench.BAD_STATE);
        Bench.due("401 for eq", b.render("{{eq 1 this}}", longest), Bench.BAD_STATE);
        Bench.due("none is shown for len", b.render("{{len this}}{{not this}}{{add this this}}", longest), "20");
        Bench.due("none is shown for at", b.render("{{#with at this 0}}{{len this}}{{/with}}", longest), "2");
        Bench.due("none is shown for a block", b.render("{{#if this}}i{{/if}}{{#with this}}w{{/with}}{{#each this}}e{{/each}}", longest), "iwee");
        Bench.due("401 shown", b.render("{{this}}", longest), Bench.BAD_STATE);
        Bench.due("400 raw", b.render("{{{this}}}", longer).length(), 400);
    }

    private static void endlessLists() {
        Bench b = new Bench();
        for (int i = 0; i < 44; i++) {
            b.engine.list();
        }
        for (int i = 0; i < 43; i++) {
            for (int times = 0; times < 10; times++) {
                b.engine.add(i, i + 1);
            }
        }
        Bench.due("10 to the 43rd", b.render("{{this}}", 0), Bench.BAD_STATE);
        Bench c = new Bench();
        for (int i = 0; i < 60; i++) {
            c.engine.list();
        }
        for (int i = 0; i < 59; i++) {
            c.engine.add(i, i + 1);
        }
        Bench.due("60 lists in one another", c.render("[{{this}}]{{not this}}{{eq this \"\"}}", 0), "[]01");
        c.engine.add(58, 59);
        Bench.due("the innermost comma", c.render("{{up this}}", 0), ",");
    }

    private static void tagLimit() {
        Bench b = new Bench();
        int x = b.engine.number(1);
        int ten = b.list(x, x, x, x, x, x, x, x, x, x);
        b.compile(1, Bench.times(28, "{{!}}"));
        String tags582 = Bench.times(2, "{{#each this}}{{> b}}{{/each}}");
        Bench.due("599 tags", b.render(tags582 + Bench.times(17, "{{!}}"), ten), "");
        Bench.due("599 tags", () -> b.engine.count(4), 599);
        b.compile(0, tags582 + Bench.times(17, "{{!}}") + "{{#if x}}{{else}}{{/if}}");
        Bench.due("600 tags, else and ends not counted", b.render(0, ten), "");
        Bench.due("600 tags", () -> b.engine.count(4), 600);
        b.compile(0, tags582 + Bench.times(17, "{{!}}") + "{{#if x}}{{else}}{{!}}{{/if}}");
        Bench.due("601 tags", b.render(0, ten), Bench.BAD_STATE);
        Bench.due("the tags from before", () -> b.engine.count(4), 600);
        tagLimitBeforePartial();
    }

    private static void tagLimitBeforePartial() {
        Bench b = new Bench();
        int x = b.engine.number(1);
        int ten = b.list(x, x, x, x, x, x, x, x, x, x);
        b.compile(1, Bench.times(28, "{{!}}"));
        String tags582 = Bench.times(2, "{{#each this}}{{> b}}{{/each}}");
        Bench.due("the 600th is no partial", b.render(tags582 + Bench.times(17, "{{!}}") + "{{> d}}", ten), Bench.NO_ELEMENT);
        Bench.due("the 601st is no partial", b.render(tags582 + Bench.times(18, "{{!}}") + "{{> d}}", ten), Bench.BAD_STATE);
    }

    private static void firstRefusalIsThrown() {
        Bench b = new Bench();
        b.text(Bench.times(150, "a"));
        String full = "{{this}}{{this}}{{this}}";
        Bench.due("too long before no partial", b.render(full + "{{> d}}", 0), Bench.BAD_STATE);
        Bench.due("no partial before too long", b.render("{{> d}}" + full, 0), Bench.NO_ELEMENT);
        Bench.due("too deep before too long", b.render("{{> a}}" + full, 0), Bench.BAD_DEPTH);
        Bench.due("too deep before no partial", b.render("{{> a}}{{> d}}", 0), Bench.BAD_DEPTH);
        Bench.due("no partial before too deep", b.render("{{> d}}{{> a}}", 0), Bench.NO_ELEMENT);
        Bench.due("too long in the second turn", b.render("{{this}}{{> a}}", 0), Bench.BAD_STATE);
    }

    private static void lastResultStays() {
        Bench b = new Bench();
        b.engine.number(5);
        Bench.due("render", b.render("a{{this}}{{!}}", 0), "a5");
        Bench.due("refused", b.render("longer{{this}}{{> d}}", 0), Bench.NO_ELEMENT);
        Bench.due("what was rendered before", b.rendered(), "a5");
        Bench.due("its tags", () -> b.engine.count(4), 2);
        Bench.due("refused", b.render(9, 0), Bench.BAD_INDEX);
        Bench.due("what was rendered before", b.rendered(), "a5");
        Bench.due("after a refusal all is as new", b.render("{{../this}}[{{@index}}]{{this}}", 0), "[]5");
        Bench.due("refused in an each", sample().render("{{#each l}}{{> d}}{{/each}}", 0), Bench.NO_ELEMENT);
    }

    private static void deepestNesting() {
        Bench b = new Bench();
        b.engine.number(3);
        String begin = "{{#with up this}}";
        String four = Bench.times(4, begin);
        String ends = Bench.times(4, "{{/with}}");
        b.compile(0, four + "{{> b}}{{this}}" + ends);
        b.compile(1, four + "{{> c}}{{this}}" + ends);
        b.compile(2, four + "{{this}}{{add 1 2}}{{up \"x\"}}" + ends);
        Bench.due("12 blocks in one another", b.render(0, 0), "33X33");
        b.compile(2, "{{" + Bench.times(8, "../") + "this}}{{" + Bench.times(9, "../") + "this}}");
        Bench.due("9 contexts", b.render(0, 0), "333");
    }

    private static void counts() {
        Bench b = new Bench();
        Bench.due("count(6)", () -> b.engine.count(6), -1);
        Bench.due("count(-1)", () -> b.engine.count(-1), -1);
        b.engine.list();
        b.engine.number(4);
        b.engine.add(0, 1);
        b.engine.add(0, 1);
        b.compile(3, "{{!}}{{this}}");
        b.compile(1, "{{#each this}}{{> d}}{{#if x}}{{this}}{{else}}{{!}}{{/if}}{{/each}}{{#with x}}{{this}}{{/with}}");
        Bench.due("render", b.render(1, 0), "44");
        Bench.due("tags come to", () -> b.engine.count(4), 1 + 2 * 5 + 1);
        b.type("abc");
        int[] due = {2, 3, 2, 2, 12, 0};
        for (int what = 0; what < due.length; what++) {
            int asked = what;
            Bench.due("count(" + what + ")", () -> b.engine.count(asked), due[what]);
        }
        countsThrows();
    }

    private static void countsThrows() {
        Bench b = new Bench();
        b.engine.number(1);
        Bench.Call[] refused = {() -> b.engine.type(-1), () -> b.engine.add(0, 0), () -> b.engine.put(0, 9), () -> b.engine.compile(7),
            () -> b.engine.render(7, 0), () -> b.engine.render(0, 0), () -> b.engine.at(0), () -> b.engine.kind(5), () -> b.engine.size(5)};
        for (int i = 0; i < refused.length; i++) {
            Bench.answerOf(refused[i]);
            Bench.due("calls that threw", () -> b.engine.count(5), i + 1);
        }
        b.type("{{");
        Bench.answerOf(() -> b.engine.compile(0));
        b.compile(0, "{{> d}}");
        b.render(0, 0);
        b.compile(0, "{{> a}}");
        b.render(0, 0);
        Bench.due("calls that threw", () -> b.engine.count(5), refused.length + 3);
        for (int i = 1; i < 60; i++) {
            b.engine.number(i);
        }
        Bench.answerOf(() -> b.engine.number(1));
        Bench.answerOf(() -> b.engine.text());
        Bench.answerOf(() -> b.engine.list());
        Bench.answerOf(() -> b.engine.map());
        Bench.due("calls that threw", () -> b.engine.count(5), refused.length + 7);
        b.type(Bench.times(200, "a"));
        Bench.answerOf(() -> b.engine.type(1));
        Bench.due("calls that threw", () -> b.engine.count(5), refused.length + 8);
        b.engine.kind(0);
        b.engine.size(0);
        b.engine.errorAt();
        b.engine.count(9);
        Bench.due("the others are not counted", () -> b.engine.count(5), refused.length + 8);
    }
}
