/** The sentences that name a boundary about DATA, NAMES and THE LINE: of 'Terms', and of the promises 1 to 8, 13 and 14. */
public final class DataTest {
    private static final int[] FAR = {Integer.MIN_VALUE, Integer.MIN_VALUE + 1, -2, -1, 1000, Integer.MAX_VALUE - 1, Integer.MAX_VALUE};

    private static final Bench.Ask[] MAKERS = {e -> e.number(5), e -> e.text(), e -> e.list(), e -> e.map()};
    private static final String[] MAKER_NAMES = {"number", "text", "list", "map"};

    public static void main(String[] args) {
        promisedCalls();
        newObject();
        charactersOfType();
        everyCharacterIsKept();
        fullLine();
        emptiedLine();
        numbersOfData();
        sixtyData();
        numbersAtTheEdges();
        textsOfEveryLength();
        emptyListAndMap();
        elementsOfAList();
        sameElementTenTimes();
        dataThatAddKnows();
        whatAddTakesAsAList();
        olderAndNewerData();
        noListContainsItself();
        noMapContainsItself();
        noneContainsItselfAtTheGreatestDepth();
        sharedDataAreNoRing();
        namesOfAMap();
        namesInPlace();
        namesAreToldApart();
        dataThatPutKnows();
        whatPutTakesAsAMap();
        lengthsOfNames();
        lettersOfNames();
        lineAfterPut();
        kinds();
        sizesOfNumbers();
        sizesOfOthers();
        dataThatKindAndSizeKnow();
        Bench.finish();
    }

    private static void promisedCalls() {
        Bench.sentence("An object is used for at most 512 calls after it has been made");
        Bench b = new Bench();
        for (int call = 1; call <= 511; call++) {
            Bench.due("call " + call, () -> b.engine().type(128), Bench.BAD_ARGUMENT);
        }
        Bench.due("the 512th call", () -> b.engine().count(5), 511);
        Bench c = new Bench();
        for (int call = 1; call <= 510; call++) {
            Bench.due("an empty template", () -> c.engine().compile(3), 0);
        }
        Bench.due("the 511th call", () -> c.engine().count(2), 1);
        Bench.due("the 512th call", () -> c.engine().number(1), 0);
    }

    private static void newObject() {
        Bench.sentence("No DATA and TEMPLATES, an empty LINE, nothing rendered.");
        for (int what = 0; what <= 5; what++) {
            int asked = what;
            Bench.due("count(" + what + ")", () -> new TemplateEngine().count(asked), 0);
        }
        Bench.due("errorAt", () -> new TemplateEngine().errorAt(), -1);
        Bench.due("at(0)", () -> new TemplateEngine().at(0), Bench.BAD_INDEX);
        Bench.due("kind(0)", () -> new TemplateEngine().kind(0), Bench.NO_ELEMENT);
        Bench.due("size(0)", () -> new TemplateEngine().size(0), Bench.NO_ELEMENT);
        Bench.due("add(0, 0)", () -> new TemplateEngine().add(0, 0), Bench.NO_ELEMENT);
        Bench.due("put(0, 0)", () -> new TemplateEngine().put(0, 0), Bench.NO_ELEMENT);
        Bench.due("type", () -> new TemplateEngine().type(0), 1);
        for (int i = 0; i < MAKERS.length; i++) {
            Bench.Ask maker = MAKERS[i];
            Bench.due(MAKER_NAMES[i], () -> maker.of(new TemplateEngine()), 0);
        }
        for (int k = 0; k < 4; k++) {
            int template = k;
            Bench.due("no TEMPLATE " + k, Bench.after(b -> b.engine().number(1)).render(template, 0), Bench.NO_ELEMENT);
            Bench.due("TEMPLATE " + k + " of an empty LINE", () -> new TemplateEngine().compile(template), 0);
        }
        Bench other = Bench.after(b -> b.text("abc"));
        Bench.due("objects know nothing of one another", () -> new TemplateEngine().count(0) + other.engine().count(0), 1);
    }

    private static void charactersOfType() {
        Bench.sentence("IllegalArgumentException: out of 0 .. 127.");
        Bench b = new Bench();
        Bench.due("type(0)", () -> b.engine().type(0), 1);
        Bench.due("type(1)", () -> b.engine().type(1), 2);
        Bench.due("type(126)", () -> b.engine().type(126), 3);
        Bench.due("type(127)", () -> b.engine().type(127), 4);
        for (int c : new int[] {-1, 128, 129, 255, 256, 256 + 'a', 65536 + 'a', -128, Integer.MIN_VALUE, Integer.MAX_VALUE}) {
            Bench.due("type(" + c + ")", () -> b.engine().type(c), Bench.BAD_ARGUMENT);
            Bench.due("THE LINE after type(" + c + ")", () -> b.engine().count(1), 4);
        }
    }

    private static void everyCharacterIsKept() {
        Bench.sentence("THE LINE holds at most 200 characters 0 .. 127.");
        Bench b = new Bench();
        StringBuilder all = new StringBuilder();
        for (char c = 0; c <= 127; c++) {
            all.append(c);
        }
        int text = b.text(all.toString());
        Bench.due("a TEXT of every character", b.render("{{{this}}}", text), all);
        Bench plain = new Bench();
        plain.engine().number(1);
        Bench.due("a TEMPLATE of every character", plain.render(all.toString(), 0), all);
    }

    private static void fullLine() {
        Bench.sentence("IllegalStateException: 200 there.");
        Bench b = new Bench();
        for (int length = 1; length <= 200; length++) {
            Bench.due("its length", () -> b.engine().type('a'), length);
        }
        Bench.due("the 201st", () -> b.engine().type('a'), Bench.BAD_STATE);
        Bench.due("the 201st again", () -> b.engine().type(0), Bench.BAD_STATE);
        Bench.due("THE LINE", () -> b.engine().count(1), 200);
        Bench.due("a TEXT of it", () -> b.engine().size(b.engine().text()), 200);
    }

    private static void emptiedLine() {
        Bench.sentence("Puts a character at the end of THE LINE: its length.");
        Bench.Ask[] takers = {e -> e.text(), e -> e.compile(0)};
        for (Bench.Ask taker : takers) {
            for (String line : new String[] {"", "a", Bench.times(199, "a"), Bench.times(200, "a")}) {
                Bench b = Bench.after(to -> to.type(line));
                Bench.due("THE LINE before", () -> b.engine().count(1), line.length());
                Bench.due("taken", () -> taker.of(b.engine()), 0);
                Bench.due("THE LINE then", () -> b.engine().count(1), 0);
                Bench.due("typed then", () -> b.engine().type('b'), 1);
            }
        }
        Bench b = Bench.after(to -> to.type(Bench.times(198, "a") + "{{"));
        Bench.due("a FAULT", () -> b.engine().compile(0), Bench.BAD_ARGUMENT);
        Bench.due("typed then", () -> b.engine().type('b'), 1);
    }

    private static void numbersOfData() {
        Bench.sentence("DATA are numbered 0, 1, .. as they are made, at most 60");
        Bench b = new Bench();
        for (int place = 0; place < 60; place++) {
            Bench.Ask maker = MAKERS[place % 4];
            Bench.due("DATA before", () -> b.engine().count(0), place);
            Bench.due("the place of the next", () -> maker.of(b.engine()), place);
        }
        Bench.due("DATA", () -> b.engine().count(0), 60);
        for (int place = 0; place < 60; place++) {
            int asked = place;
            Bench.due("kind(" + place + ")", () -> b.engine().kind(asked), place % 4);
        }
    }

    private static void sixtyData() {
        Bench.sentence("IllegalStateException: 60 were made; so for the next three.");
        for (int i = 0; i < MAKERS.length; i++) {
            Bench.Ask maker = MAKERS[i];
            Bench b = new Bench();
            for (int place = 0; place < 58; place++) {
                b.engine().number(place);
            }
            b.type("kept");
            Bench.due(MAKER_NAMES[i] + " as the 59th", () -> maker.of(b.engine()), 58);
            Bench.due(MAKER_NAMES[i] + " as the 60th", () -> maker.of(b.engine()), 59);
            int typed = b.engine().count(1);
            for (int j = 0; j < MAKERS.length; j++) {
                Bench.Ask other = MAKERS[j];
                Bench.due(MAKER_NAMES[j] + " as the 61st", () -> other.of(b.engine()), Bench.BAD_STATE);
            }
            Bench.due("DATA", () -> b.engine().count(0), 60);
            Bench.due("THE LINE", () -> b.engine().count(1), typed);
            Bench.due("kind of the 60th", () -> b.engine().kind(59), i);
            Bench.due("kind of a 61st", () -> b.engine().kind(60), Bench.NO_ELEMENT);
        }
    }

    private static void numbersAtTheEdges() {
        Bench.sentence("Makes a NUMBER: its place among the DATA.");
        Bench b = new Bench();
        int[] numbers = {Integer.MIN_VALUE, Integer.MIN_VALUE + 1, -10, -9, -1, 0, 1, 9, 10, Integer.MAX_VALUE - 1, Integer.MAX_VALUE};
        b.compile(0, "{{this}}");
        for (int i = 0; i < numbers.length; i++) {
            int number = numbers[i];
            Bench.due("number(" + number + ")", () -> b.engine().number(number), i);
            Bench.due("it is shown", b.render(0, i), number);
        }
    }

    private static void textsOfEveryLength() {
        Bench.sentence("THE LINE becomes a TEXT, and is empty then.");
        for (int length : new int[] {0, 1, 2, 199, 200}) {
            Bench b = new Bench();
            String text = Bench.times(length, "q");
            b.type(text);
            Bench.due("text", () -> b.engine().text(), 0);
            Bench.due("THE LINE", () -> b.engine().count(1), 0);
            Bench.due("the next TEXT has nothing of it", () -> b.engine().size(b.engine().text()), 0);
            Bench.due("the TEXT, after other typing", b.render("{{this}}", 0), text);
        }
    }

    private static void emptyListAndMap() {
        Bench.sentence("Makes an empty LIST.");
        Bench b = Bench.after(to -> to.type("kept"));
        Bench.due("size of a LIST", () -> b.engine().size(b.engine().list()), 0);
        Bench.due("THE LINE stays", () -> b.engine().count(1), 4);
        Bench.sentence("Makes an empty MAP.");
        Bench.due("size of a MAP", () -> b.engine().size(b.engine().map()), 0);
        Bench.due("THE LINE stays", () -> b.engine().count(1), 4);
    }

    private static void elementsOfAList() {
        Bench.sentence("IllegalStateException: it has 10.");
        Bench b = new Bench();
        for (int x = 0; x < 11; x++) {
            b.engine().number(x);
        }
        int list = b.engine().list();
        for (int x = 0; x < 10; x++) {
            int element = x;
            Bench.due("how many it has", () -> b.engine().add(list, element), x + 1);
            Bench.due("its size", () -> b.engine().size(list), x + 1);
        }
        Bench.due("the 11th", () -> b.engine().add(list, 10), Bench.BAD_STATE);
        Bench.due("the 11th, one that it has", () -> b.engine().add(list, 0), Bench.BAD_STATE);
        Bench.due("its size", () -> b.engine().size(list), 10);
        Bench.due("its elements", b.render("{{this}}", list), "0,1,2,3,4,5,6,7,8,9");
        int other = b.engine().list();
        Bench.due("another LIST is not full", () -> b.engine().add(other, list), 1);
        Bench.due("a full LIST may be an element twice", () -> b.engine().add(other, list), 2);
    }

    private static void sameElementTenTimes() {
        Bench.sentence("Adds DATA x at the end of LIST l: how many it has.");
        Bench b = new Bench();
        b.text("s");
        int list = b.engine().list();
        for (int times = 1; times <= 10; times++) {
            Bench.due("the same once more", () -> b.engine().add(list, 0), times);
        }
        Bench.due("an 11th time", () -> b.engine().add(list, 0), Bench.BAD_STATE);
        Bench.due("its elements", b.render("{{this}}", list), "s,s,s,s,s,s,s,s,s,s");
    }

    private static void dataThatAddKnows() {
        Bench.sentence("NoSuchElementException: no such DATA. IllegalArgumentException: l is no LIST, or would contain itself.");
        Bench b = new Bench();
        Bench.due("without DATA", () -> b.engine().add(0, 0), Bench.NO_ELEMENT);
        b.engine().list();
        b.engine().number(1);
        Bench.due("an element behind the last", () -> b.engine().add(0, 2), Bench.NO_ELEMENT);
        Bench.due("a LIST behind the last", () -> b.engine().add(2, 1), Bench.NO_ELEMENT);
        for (int x : FAR) {
            Bench.due("the element " + x, () -> b.engine().add(0, x), Bench.NO_ELEMENT);
            Bench.due("the LIST " + x, () -> b.engine().add(x, 1), Bench.NO_ELEMENT);
            Bench.due("both " + x, () -> b.engine().add(x, x), Bench.NO_ELEMENT);
        }
        Bench.due("the last", () -> b.engine().add(0, 1), 1);
        for (int place = 2; place < 60; place++) {
            b.engine().list();
        }
        Bench.due("the 60th as element", () -> b.engine().add(0, 59), 2);
        Bench.due("the 60th as LIST", () -> b.engine().add(59, 1), 1);
        Bench.due("the 61st as element", () -> b.engine().add(0, 60), Bench.NO_ELEMENT);
        Bench.due("the 61st as LIST", () -> b.engine().add(60, 1), Bench.NO_ELEMENT);
    }

    private static void whatAddTakesAsAList() {
        Bench.sentence("IllegalArgumentException: l is no LIST");
        Bench b = new Bench();
        b.engine().number(1);
        b.engine().text();
        b.engine().list();
        b.engine().map();
        b.type("a");
        for (int l : new int[] {0, 1, 3}) {
            for (int x = 0; x < 4; x++) {
                int element = x;
                Bench.due("add(" + l + ", " + x + ")", () -> b.engine().add(l, element), Bench.BAD_ARGUMENT);
            }
        }
        Bench.due("a NUMBER", () -> b.engine().add(2, 0), 1);
        Bench.due("a TEXT", () -> b.engine().add(2, 1), 2);
        Bench.due("itself", () -> b.engine().add(2, 2), Bench.BAD_ARGUMENT);
        Bench.due("a MAP", () -> b.engine().add(2, 3), 3);
        Bench.due("THE LINE is not asked", () -> b.engine().count(1), 1);
    }

    private static void olderAndNewerData() {
        Bench.sentence("What is put into a LIST or MAP was made later than it was, or not: any DATA may be");
        Bench b = new Bench();
        int older = b.engine().number(1);
        int list = b.engine().list();
        int map = b.engine().map();
        int newer = b.engine().number(2);
        Bench.due("older into a LIST", () -> b.engine().add(list, older), 1);
        Bench.due("newer into a LIST", () -> b.engine().add(list, newer), 2);
        Bench.due("older into a MAP", b.put(map, "a", older), 1);
        Bench.due("newer into a MAP", b.put(map, "b", newer), 2);
        Bench.due("an older LIST into a MAP", b.put(map, "c", list), 3);
        int last = b.engine().list();
        Bench.due("an older MAP into a LIST", () -> b.engine().add(last, map), 1);
    }

    private static void noListContainsItself() {
        Bench.sentence("no LIST or MAP may come to contain itself (at any depth)");
        Bench b = new Bench();
        for (int i = 0; i < 4; i++) {
            b.engine().list();
        }
        Bench.due("a LIST in itself", () -> b.engine().add(0, 0), Bench.BAD_ARGUMENT);
        Bench.due("1 in 0", () -> b.engine().add(0, 1), 1);
        Bench.due("0 in 1", () -> b.engine().add(1, 0), Bench.BAD_ARGUMENT);
        Bench.due("2 in 1", () -> b.engine().add(1, 2), 1);
        Bench.due("0 in 2", () -> b.engine().add(2, 0), Bench.BAD_ARGUMENT);
        Bench.due("1 in 2", () -> b.engine().add(2, 1), Bench.BAD_ARGUMENT);
        Bench.due("3 in 2", () -> b.engine().add(2, 3), 1);
        Bench.due("0 in 3", () -> b.engine().add(3, 0), Bench.BAD_ARGUMENT);
        Bench.due("3 in 0", () -> b.engine().add(0, 3), 2);
        Bench.due("3 in 3", () -> b.engine().add(3, 3), Bench.BAD_ARGUMENT);
        Bench.due("size of the innermost", () -> b.engine().size(3), 0);
        b.engine().list();
        Bench.due("by the second of its elements", () -> b.engine().add(4, 0), 1);
        Bench.due("by the second of its elements", () -> b.engine().add(3, 4), Bench.BAD_ARGUMENT);
    }

    private static void noMapContainsItself() {
        Bench.sentence("IllegalArgumentException: m is no MAP, would contain itself");
        Bench b = new Bench();
        b.engine().map();
        b.engine().list();
        b.engine().map();
        int number = b.engine().number(1);
        b.type("a");
        Bench.due("a MAP in itself", () -> b.engine().put(0, 0), Bench.BAD_ARGUMENT);
        Bench.due("a LIST in a MAP", () -> b.engine().put(0, 1), 1);
        Bench.due("that MAP in that LIST", () -> b.engine().add(1, 0), Bench.BAD_ARGUMENT);
        Bench.due("a MAP in that LIST", () -> b.engine().add(1, 2), 1);
        b.type("b");
        Bench.due("by a LIST", () -> b.engine().put(2, 0), Bench.BAD_ARGUMENT);
        Bench.due("the LIST that it is in", () -> b.engine().put(2, 1), Bench.BAD_ARGUMENT);
        Bench.due("a NUMBER", () -> b.engine().put(2, number), 1);
        Bench.due("in place of the LIST, which is in no MAP then", b.put(0, "a", number), 1);
        Bench.due("so the LIST takes the MAP", () -> b.engine().add(1, 0), 2);
        b.type("c");
        Bench.due("and the MAP not the LIST", () -> b.engine().put(0, 1), Bench.BAD_ARGUMENT);
        Bench.due("nor the MAP in it", () -> b.engine().put(2, 1), Bench.BAD_ARGUMENT);
        Bench.due("but the other MAP", () -> b.engine().put(0, 2), 2);
    }

    private static void noneContainsItselfAtTheGreatestDepth() {
        Bench.sentence("(at any depth)");
        Bench b = new Bench();
        for (int place = 0; place < 60; place++) {
            Bench.Ask maker = MAKERS[2 + place % 2];
            maker.of(b.engine());
        }
        for (int place = 0; place < 59; place++) {
            hold(b, place, place + 1);
        }
        b.type("b");
        for (int x = 0; x < 60; x++) {
            int whole = x;
            Bench.due("the innermost takes not " + x, () -> b.engine().put(59, whole), Bench.BAD_ARGUMENT);
            if (x < 59) {
                Bench.due("nor the one around it " + x, () -> b.engine().add(58, whole), Bench.BAD_ARGUMENT);
            }
        }
        Bench.due("size of the innermost", () -> b.engine().size(59), 0);
        Bench.due("the outermost takes the innermost", () -> b.engine().add(0, 59), 2);
        Bench.due("the one around it takes it again", () -> b.engine().add(58, 59), 2);
    }

    private static void hold(Bench b, int whole, int part) {
        if (b.engine().kind(whole) == 3) {
            b.put(whole, "a", part);
        } else {
            b.engine().add(whole, part);
        }
    }

    /** The ways from the outermost to the innermost are ten to the 38th. */
    private static void sharedDataAreNoRing() {
        Bench.sentence("no LIST or MAP may come to contain itself (at any depth).");
        Bench b = new Bench();
        for (int i = 0; i < 39; i++) {
            b.engine().list();
        }
        for (int i = 0; i < 38; i++) {
            for (int times = 0; times < 10; times++) {
                b.engine().add(i, i + 1);
            }
        }
        Bench.due("the innermost takes not the outermost", () -> b.engine().add(38, 0), Bench.BAD_ARGUMENT);
        int whole = b.engine().list();
        Bench.due("a LIST that is not in it", () -> b.engine().add(whole, 0), 1);
        Bench.due("nor takes the innermost that", () -> b.engine().add(38, whole), Bench.BAD_ARGUMENT);
    }

    private static void namesOfAMap() {
        Bench.sentence("IllegalStateException: it has 10 others.");
        Bench b = new Bench();
        int map = b.engine().map();
        int one = b.engine().number(1);
        int two = b.engine().number(2);
        for (char name = 'a'; name <= 'j'; name++) {
            Bench.due("how many NAMES it has", b.put(map, String.valueOf(name), one), name - 'a' + 1);
            Bench.due("its size", () -> b.engine().size(map), name - 'a' + 1);
        }
        b.type("k");
        Bench.due("an 11th NAME", () -> b.engine().put(map, one), Bench.BAD_STATE);
        Bench.due("its size", () -> b.engine().size(map), 10);
        Bench.due("THE LINE stays", () -> b.engine().text(), 3);
        b.type("aa");
        Bench.due("an 11th NAME that begins like one of them", () -> b.engine().put(map, one), Bench.BAD_STATE);
        b.engine().text();
        Bench.due("the first of the 10", b.put(map, "a", two), 10);
        Bench.due("the last of the 10", b.put(map, "j", two), 10);
        b.type("k");
        Bench.due("an 11th NAME still", () -> b.engine().put(map, one), Bench.BAD_STATE);
        b.engine().text();
        Bench.due("its DATA", b.render("{{#each this}}{{this}}{{/each}}[{{k}}{{aa}}]", map), "2111111112[]");
    }

    private static void namesInPlace() {
        Bench.sentence("stands for DATA x in MAP m, in place of what it stood for: how many NAMES it has.");
        Bench b = new Bench();
        int map = b.engine().map();
        int other = b.engine().map();
        for (int number = 0; number < 4; number++) {
            b.engine().number(number);
        }
        Bench.due("a new NAME", b.put(map, "b", 3), 1);
        Bench.due("the same NAME", b.put(map, "b", 4), 1);
        Bench.due("the same DATA", b.put(map, "b", 4), 1);
        Bench.due("a second NAME", b.put(map, "a", 4), 2);
        Bench.due("the first NAME again", b.put(map, "b", 5), 2);
        Bench.due("the same NAME in another MAP", b.put(other, "b", 2), 1);
        b.compile(0, "{{a}}{{b}} {{#each this}}{{this}}{{/each}}");
        Bench.due("the NAME that was first stays first", b.render(0, map), "23 32");
        Bench.due("each MAP has its own", b.render(0, other), "0 0");
    }

    private static void namesAreToldApart() {
        Bench.sentence("a MAP from NAMES to DATA");
        String[] names = {"a", "aa", "aaaaaaaa", "aaaaaaab", "baaaaaaa", "z", "zz", "zzzzzzzz", "zzzzzzzy", "az"};
        Bench b = new Bench();
        int map = b.engine().map();
        for (int i = 0; i < names.length; i++) {
            Bench.due("a NAME more", b.put(map, names[i], b.engine().number(i)), i + 1);
        }
        StringBuilder template = new StringBuilder();
        for (String name : names) {
            template.append("{{").append(name).append("}}");
        }
        Bench.due("what each stands for", b.render(template.toString(), map), "0123456789");
    }

    private static void dataThatPutKnows() {
        Bench.sentence("NoSuchElementException: no such DATA. IllegalArgumentException: m is no MAP");
        Bench b = new Bench();
        b.type("a");
        Bench.due("without DATA", () -> b.engine().put(0, 0), Bench.NO_ELEMENT);
        b.engine().map();
        b.engine().number(1);
        Bench.due("DATA behind the last", () -> b.engine().put(0, 2), Bench.NO_ELEMENT);
        Bench.due("a MAP behind the last", () -> b.engine().put(2, 1), Bench.NO_ELEMENT);
        for (int x : FAR) {
            Bench.due("the DATA " + x, () -> b.engine().put(0, x), Bench.NO_ELEMENT);
            Bench.due("the MAP " + x, () -> b.engine().put(x, 1), Bench.NO_ELEMENT);
            Bench.due("both " + x, () -> b.engine().put(x, x), Bench.NO_ELEMENT);
        }
        Bench.due("THE LINE stays", () -> b.engine().count(1), 1);
        Bench.due("the last", () -> b.engine().put(0, 1), 1);
        for (int place = 2; place < 60; place++) {
            b.engine().map();
        }
        Bench.due("the 60th as DATA", b.put(0, "b", 59), 2);
        Bench.due("the 60th as MAP", b.put(59, "b", 1), 1);
        b.type("c");
        Bench.due("the 61st as DATA", () -> b.engine().put(0, 60), Bench.NO_ELEMENT);
        Bench.due("the 61st as MAP", () -> b.engine().put(60, 1), Bench.NO_ELEMENT);
    }

    private static void whatPutTakesAsAMap() {
        Bench.sentence("m is no MAP");
        Bench b = new Bench();
        b.engine().number(1);
        b.engine().text();
        b.engine().list();
        b.engine().map();
        b.type("a");
        for (int m = 0; m < 3; m++) {
            for (int x = 0; x < 4; x++) {
                int map = m;
                int entry = x;
                Bench.due("put(" + m + ", " + x + ")", () -> b.engine().put(map, entry), Bench.BAD_ARGUMENT);
            }
        }
        Bench.due("THE LINE stays", () -> b.engine().count(1), 1);
        Bench.due("a NUMBER", () -> b.engine().put(3, 0), 1);
        Bench.due("a TEXT", b.put(3, "b", 1), 2);
        Bench.due("a LIST", b.put(3, "c", 2), 3);
    }

    private static void lengthsOfNames() {
        Bench.sentence("A NAME is 1 to 8 letters a .. z.");
        for (int length = 0; length <= 200; length++) {
            boolean fits = length >= 1 && length <= 8;
            String name = Bench.times(length, "z");
            Bench b = Bench.after(to -> {
                to.engine().map();
                to.type(name);
            });
            b.engine().number(1);
            Bench.due("put by " + length + " letters", () -> b.engine().put(0, 1), fits ? 1 : Bench.BAD_ARGUMENT);
            Bench.due("THE LINE then", () -> b.engine().count(1), fits ? 0 : length);
            Bench.due("the MAP then", () -> b.engine().size(0), fits ? 1 : 0);
        }
    }

    private static void lettersOfNames() {
        Bench.sentence("or THE LINE is no NAME.");
        for (int c = 0; c <= 127; c++) {
            boolean fits = c >= 'a' && c <= 'z';
            for (String begin : new String[] {"", "b", "bcdefgh"}) {
                String end = begin.length() == 1 ? "b" : "";
                Bench b = new Bench();
                b.engine().map();
                b.engine().number(1);
                b.type(begin + (char) c + end);
                Bench.due("put by <" + begin + (char) c + end + ">", () -> b.engine().put(0, 1), fits ? 1 : Bench.BAD_ARGUMENT);
            }
        }
        String[] words = {"this", "up", "len", "not", "add", "eq", "at", "else", "if", "each"};
        Bench b = new Bench();
        b.engine().map();
        b.engine().number(1);
        for (int i = 0; i < words.length; i++) {
            Bench.due("put by the word " + words[i], b.put(0, words[i], 1), i + 1);
        }
    }

    private static void lineAfterPut() {
        Bench.sentence("THE LINE, a NAME, which is empty then (if nothing is thrown)");
        Bench b = new Bench();
        b.engine().map();
        b.engine().number(1);
        b.type("abcdefg");
        Bench.due("an 8th letter", () -> b.engine().type('h'), 8);
        Bench.due("put", () -> b.engine().put(0, 1), 1);
        Bench.due("THE LINE", () -> b.engine().count(1), 0);
        Bench.due("put by an empty LINE", () -> b.engine().put(0, 1), Bench.BAD_ARGUMENT);
        b.type("abcdefghi");
        Bench.due("put by 9 letters", () -> b.engine().put(0, 1), Bench.BAD_ARGUMENT);
        Bench.due("THE LINE", () -> b.engine().count(1), 9);
        Bench.due("its text", b.render("{{this}}", b.engine().text()), "abcdefghi");
    }

    private static void kinds() {
        Bench.sentence("0 a NUMBER, 1 a TEXT, 2 a LIST, 3 a MAP.");
        for (int i = 0; i < MAKERS.length; i++) {
            Bench.Ask maker = MAKERS[i];
            Bench b = new Bench();
            maker.of(b.engine());
            Bench.due("kind of what " + MAKER_NAMES[i] + " made, as it is new", () -> b.engine().kind(0), i);
        }
        Bench b = new Bench();
        int list = b.list(b.engine().number(0), b.text("7"));
        int map = b.engine().map();
        b.put(map, "a", list);
        Bench.due("a LIST with elements", () -> b.engine().kind(list), 2);
        Bench.due("a MAP with NAMES", () -> b.engine().kind(map), 3);
        Bench.due("a TEXT of digits", () -> b.engine().kind(1), 1);
    }

    private static void sizesOfNumbers() {
        Bench.sentence("What len gives for DATA x.");
        int[] numbers = new int[41];
        int power = 1;
        for (int digits = 0; digits < 10; digits++) {
            numbers[4 * digits] = power;
            numbers[4 * digits + 1] = power - 1;
            numbers[4 * digits + 2] = -power;
            numbers[4 * digits + 3] = 1 - power;
            power *= 10;
        }
        numbers[40] = Integer.MIN_VALUE;
        Bench b = new Bench();
        for (int number : numbers) {
            int x = b.engine().number(number);
            Bench.due("size of " + number, () -> b.engine().size(x), Integer.toString(number).length());
        }
        int most = b.engine().number(Integer.MAX_VALUE);
        Bench.due("size of the greatest", () -> b.engine().size(most), 10);
    }

    private static void sizesOfOthers() {
        Bench.sentence("how many characters a TEXT, elements a LIST, entries a MAP has");
        for (int length : new int[] {0, 1, 199, 200}) {
            Bench b = new Bench();
            int text = b.text(Bench.times(length, "&"));
            Bench.due("a TEXT of " + length, () -> b.engine().size(text), length);
        }
        Bench b = new Bench();
        int inner = b.engine().list();
        int list = b.engine().list();
        int map = b.engine().map();
        for (int size = 0; size <= 10; size++) {
            Bench.due("a LIST", () -> b.engine().size(list), size);
            Bench.due("a MAP", () -> b.engine().size(map), size);
            if (size < 10) {
                b.engine().add(list, inner);
                b.put(map, String.valueOf((char) ('a' + size)), list);
            }
        }
        b.put(map, "j", inner);
        Bench.due("a MAP with a NAME put again", () -> b.engine().size(map), 10);
    }

    private static void dataThatKindAndSizeKnow() {
        Bench.sentence("NoSuchElementException: no such DATA.");
        Bench b = new Bench();
        for (int made = 0; made < 60; made++) {
            int behind = made;
            Bench.due("kind behind the last", () -> b.engine().kind(behind), Bench.NO_ELEMENT);
            Bench.due("size behind the last", () -> b.engine().size(behind), Bench.NO_ELEMENT);
            b.engine().number(made);
            Bench.due("kind of the last", () -> b.engine().kind(behind), 0);
            Bench.due("size of the last", () -> b.engine().size(behind), made < 10 ? 1 : 2);
        }
        for (int x : FAR) {
            Bench.due("kind(" + x + ")", () -> b.engine().kind(x), Bench.NO_ELEMENT);
            Bench.due("size(" + x + ")", () -> b.engine().size(x), Bench.NO_ELEMENT);
        }
        Bench.due("kind(60)", () -> b.engine().kind(60), Bench.NO_ELEMENT);
        Bench.due("size(60)", () -> b.engine().size(60), Bench.NO_ELEMENT);
        Bench.due("DATA", () -> b.engine().count(0), 60);
    }
}
