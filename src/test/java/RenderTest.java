/** Promises 11 and 12: what is rendered for ordinary inputs, and for the deepest ones. */
public final class RenderTest {
    public static void main(String[] args) {
        plainAndShown();
        paths();
        literals();
        upAndLen();
        notAndIf();
        addEqAt();
        each();
        with();
        contexts();
        indexAndFirst();
        partials();
        reckonedContextsLast();
        endlessLists();
        deepestNesting();
        Bench.finish();
    }

    private static void plainAndShown() {
        Sample.shows("", "");
        Sample.shows("a & \"b\" <c> }} {", "a & \"b\" <c> }} {");
        Sample.shows("{{n}}", "7");
        Sample.shows("{{min}} {{z}} {{m.b}}", "-2147483648 0 -5");
        Sample.shows("{{q}}|{{{q}}}", "&amp;&lt;&gt;&quot;'a|&<>\"'a");
        Sample.shows("{{l}}|{{{l}}}", "7,x&lt;y,0,0,7,[map]|7,x<y,0,0,7,[map]");
        Sample.shows("{{m}}{{em}}", "[map][map]");
        Sample.shows("[{{et}}{{el}}{{x}}{{{x}}}]", "[]");
        Sample.shows("a{{!n}}b{{! {{ }}c", "abc");
        Sample.shows("{{n}}}{{{n}}}}", "7}7}");
    }

    private static void paths() {
        Sample.shows("{{m.b}}{{m.c}}{{m.this}}", "-5abc9");
        Sample.shows("{{l.0}}{{l.3.1}}{{l.4.c}}", "77abc");
        Sample.shows("[{{l.5}}{{l.9}}{{el.0}}{{l.b}}{{m.0}}{{n.a}}{{n.0}}{{t.a}}{{t.0}}{{x.y.z}}{{m.x.y}}]", "[]");
        Sample.shows("{{this}}", "[map]");
        Sample.shows("[{{../this}}{{../n}}{{../../../n}}]", "[]");
        Sample.shows("{{up}}{{len}}{{at.this}}", "");
    }

    private static void literals() {
        Sample.shows("{{12345}}{{007}}{{0}}", "1234570");
        Sample.shows("{{\"a<b\"}}{{{\"a<b\"}}}{{\"\"}}{{\" {{ \"}}", "a&lt;ba<b {{ ");
        Sample.shows("{{#with \"s\"}}{{this}}{{len this}}{{/with}}{{#with 5}}{{add this this}}{{/with}}", "s110");
    }

    private static void upAndLen() {
        Sample.shows("{{up t}} {{{up t}}} {{up n}} {{up m}} {{{up l}}}", "X&lt;Y X<Y 7 [MAP] 7,X<Y,0,0,7,[MAP]");
        Sample.shows("[{{up x}}{{up et}}{{up el}}]", "[]");
        Sample.shows("{{up \"`az{AZ@[\"}}", "`AZ{AZ@[");
        Sample.shows("{{#with up x}}text{{else}}nothing{{/with}}", "text");
        Sample.shows("{{len t}}{{len l}}{{len m}}{{len n}}{{len m.b}}{{len x}}{{len et}}{{len el}}{{len em}}{{len 007}}", "3531200001");
        Sample.shows("{{len min}} {{len q}} {{len \"\"}} {{len @index}}", "11 6 0 0");
    }

    private static void notAndIf() {
        String[] falses = {"x", "z", "et", "el", "0", "000", "\"\"", "@index", "@first", "not n", "len x", "add n t", "at l 9", "up x"};
        for (String value : falses) {
            Sample.shows("{{#if " + value + "}}yes{{else}}no{{/if}}", "no");
            Sample.shows("{{#if " + value + "}}yes{{/if}}", "");
            if (value.indexOf(' ') < 0) {
                Sample.shows("{{not " + value + "}}", "1");
            }
        }
        String[] trues = {"n", "m", "em", "t", "l", "min", "\"0\"", "\" \"", "1", "not x", "len n", "add n 1", "at l 0", "up n"};
        for (String value : trues) {
            Sample.shows("{{#if " + value + "}}yes{{else}}no{{/if}}", "yes");
            Sample.shows("{{#if " + value + "}}yes{{/if}}", "yes");
            if (value.indexOf(' ') < 0) {
                Sample.shows("{{not " + value + "}}", "0");
            }
        }
        Sample.shows("{{#if m}}{{m.b}}{{../n}}{{/if}}", "-5");
    }

    private static void addEqAt() {
        Sample.shows("{{add n m.b}} {{add min min}} {{add min 1}} {{add 99999 99999}}", "2 0 -2147483647 199998");
        Sample.shows("[{{add n t}}{{add t n}}{{add n x}}{{add x n}}{{add l l}}{{add \"1\" \"2\"}}{{add m m}}]", "[]");
        Sample.shows("{{eq n 7}}{{eq n \"7\"}}{{eq 007 7}}{{eq t \"x<y\"}}{{eq x \"\"}}{{eq el x}}{{eq m em}}{{eq m \"[map]\"}}", "11111111");
        Sample.shows("{{eq n 8}}{{eq t \"x<z\"}}{{eq t \"x<\"}}{{eq z x}}{{eq \"a\" \"A\"}}", "00000");
        Sample.shows("{{eq l l}}{{eq l.3 \"0,7\"}}{{eq l \"7\"}}", "110");
        Sample.shows("{{at l 0}}{{at l.3 1}}{{at l z}}", "777");
        Sample.shows("[{{at l 5}}{{at l m.b}}{{at l min}}{{at l \"0\"}}{{at l x}}{{at m 0}}{{at t 0}}{{at x 0}}{{at el 0}}{{at n n}}]", "[]");
        Sample.shows("{{#with at l 4}}{{c}}{{/with}}{{#each at l 3}}{{this}};{{/each}}", "abc0;7;");
    }

    private static void each() {
        Sample.shows("{{#each l}}<{{this}}>{{/each}}", "<7><x&lt;y><0><0,7><[map]>");
        Sample.shows("{{#each m}}{{this}};{{/each}}", "-5;abc;9;");
        for (String value : new String[] {"el", "em", "n", "t", "x", "z", "\"ab\"", "up l", "3"}) {
            Sample.shows("{{#each " + value + "}}yes{{else}}no{{/each}}", "no");
            Sample.shows("{{#each " + value + "}}yes{{/each}}", "");
        }
        Sample.shows("{{#each l}}{{#each this}}{{this}}{{else}}-{{/each}};{{/each}}", "-;-;-;07;-5abc9;");
        Sample.shows("{{#each l}}x{{else}}y{{/each}}", "xxxxx");
    }

    private static void with() {
        Sample.shows("{{#with m}}{{b}}{{c}}{{else}}no{{/with}}", "-5abc");
        for (String value : new String[] {"z", "et", "el", "em", "n", "0", "\"\"", "up x", "not n", "len x"}) {
            Sample.shows("{{#with " + value + "}}yes{{else}}no{{/with}}", "yes");
        }
        for (String value : new String[] {"x", "m.x", "@index", "add n t", "at l 9", "../this"}) {
            Sample.shows("{{#with " + value + "}}yes{{else}}no{{/with}}", "no");
            Sample.shows("{{#with " + value + "}}yes{{/with}}", "");
        }
        Sample.shows("{{#with x}}{{else}}{{n}}{{/with}}{{#each x}}{{else}}{{n}}{{/each}}", "77");
    }

    private static void contexts() {
        Sample.shows("{{#with m}}{{#with c}}{{this}}{{../b}}{{../../n}}[{{../../../n}}]{{/with}}{{/with}}{{n}}", "abc-57[]7");
        Sample.shows("{{#with m}}{{#if b}}{{b}}{{../n}}{{/if}}[{{n}}]{{/with}}", "-57[]");
        Sample.shows("{{#each l.3}}{{this}}{{../n}}{{../l.0}};{{/each}}", "077;777;");
        Sample.shows("{{#with m}}{{#with x}}{{else}}{{b}}{{../n}}{{/with}}{{/with}}", "-57");
        Sample.shows("{{#with ../x}}{{else}}none{{/with}}", "none");
    }

    private static void indexAndFirst() {
        Sample.shows("{{#each l}}{{@index}}{{@first}} {{/each}}", "01 10 20 30 40 ");
        Sample.shows("[{{@index}}{{@first}}{{#with m}}{{@index}}{{/with}}{{#each x}}{{else}}{{@index}}{{/each}}]", "[]");
        Sample.shows("{{#each l.3}}{{@index}}{{#each ../l.3}}{{@index}}{{@first}}{{/each}}{{@index}}{{@first}};{{/each}}", "0011001;1011010;");
        Sample.shows("{{#each l.3}}{{#with ../m}}{{@index}}{{/with}}{{#each x}}{{else}}{{@index}}{{/each}}{{/each}}[{{@index}}]", "0011[]");
        Sample.shows("{{#each m}}{{@index}}{{add @index @index}}{{eq @index @first}}{{len @index}}{{up @first}};{{/each}}", "00011;12010;24010;");
        Sample.shows("{{#each l.3}}{{#with @index}}{{this}}{{@first}}{{/with}}{{at ../l @index}};{{/each}}", "017;10x&lt;y;");
        Sample.shows("{{#each l.3}}{{add @index @first}}{{add 5 @index}}{{add @first 5}};{{/each}}", "156;165;");
    }

    private static void partials() {
        Bench b = Sample.bench();
        b.compile(1, "<{{this}}{{@index}}{{@first}}{{../n}}{{#each ../l.3}}{{@index}}{{/each}}>");
        Bench.due("each in the partial alone", b.render("{{#each l.3}}{{> b}}{{@index}}{{/each}}", 0), "<0701>0<7701>1");
        b.compile(1, "{{c}}{{../n}}");
        Bench.due("a partial has the contexts", b.render("{{#with m}}{{> b}}{{/with}}[{{> b}}]", 0), "abc7[]");
        b.compile(2, "c{{> d}}");
        b.compile(3, "d");
        b.compile(1, "b{{> c}}{{> d}}");
        Bench.due("three in one another", b.render("a{{> c}}{{> d}}", 0), "acdd");
        Bench.due("three in one another", b.render(1, 0), "bcdd");
        b.compile(0, "{{this}}{{#each this}}{{> a}}{{/each}};");
        Bench.due("in itself, twice", b.render(0, 11), ";");
        int inner = b.list(1);
        Bench.due("in itself, twice", b.render(0, b.list(inner)), "777;;;");
    }

    private static void reckonedContextsLast() {
        Sample.shows("{{#with up t}}{{#with up \"in\"}}{{{../this}}}{{this}}{{up \"q\"}}{{../../n}}{{{../this}}}{{/with}}{{{this}}}{{/with}}",
                "X<YINQ7X<YX<Y");
        Sample.shows("{{#with add 1 2}}{{add 4 5}}{{#if not x}}{{not x}}{{this}}{{/if}}{{this}}{{/with}}", "9133");
        Sample.shows("{{#with up t}}{{{up \"in\"}}}{{{add 1 2}}}{{{this}}}{{/with}}", "IN3X<Y");
        Bench b = Sample.bench();
        b.compile(1, "{{up \"zz\"}}{{#with len this}}{{this}}{{../this}}{{/with}}");
        Bench.due("over a partial", b.render("{{#with up t}}{{> b}}{{{this}}}{{/with}}", 0), "ZZ3X&lt;YX<Y");
    }

    private static void endlessLists() {
        Bench b = new Bench();
        for (int i = 0; i < 44; i++) {
            b.engine().list();
        }
        for (int i = 0; i < 43; i++) {
            for (int times = 0; times < 10; times++) {
                b.engine().add(i, i + 1);
            }
        }
        Bench.due("10 to the 43rd", b.render("{{this}}", 0), Bench.BAD_STATE);
        Bench c = new Bench();
        for (int i = 0; i < 60; i++) {
            c.engine().list();
        }
        for (int i = 0; i < 59; i++) {
            c.engine().add(i, i + 1);
        }
        Bench.due("60 lists in one another", c.render("[{{this}}]{{not this}}{{eq this \"\"}}", 0), "[]01");
        c.engine().add(58, 59);
        Bench.due("the innermost comma", c.render("{{up this}}", 0), ",");
    }

    private static void deepestNesting() {
        Bench b = new Bench();
        b.engine().number(3);
        String begin = "{{#with up this}}";
        String four = Bench.times(4, begin);
        String ends = Bench.times(4, "{{/with}}");
        b.compile(0, four + "{{> b}}{{this}}" + ends);
        b.compile(1, four + "{{> c}}{{this}}" + ends);
        b.compile(2, four + "{{this}}{{add 1 2}}{{up \"x\"}}" + ends);
        Bench.due("12 blocks in one another", b.render(0, 0), "33X33");
        b.compile(2, "{{" + Bench.times(8, "../") + "this}}{{" + Bench.times(9, "../") + "this}}");
        Bench.due("9 contexts", b.render(0, 0), "333");
        deepestOtherParts("{{#if x}}{{else}}", "{{/if}}");
        deepestOtherParts("{{#with x}}{{else}}", "{{/with}}");
        deepestOtherParts("{{#each x}}{{else}}", "{{/each}}");
    }

    private static void deepestOtherParts(String begin, String end) {
        Bench b = new Bench();
        b.engine().number(3);
        String begins = Bench.times(4, begin);
        String ends = Bench.times(4, end);
        b.compile(0, begins + "{{> b}}a" + ends);
        b.compile(1, begins + "{{> c}}b" + ends);
        b.compile(2, begins + "{{this}}" + ends);
        Bench.due("12 other parts in one another", b.render(0, 0), "3ba");
    }
}
