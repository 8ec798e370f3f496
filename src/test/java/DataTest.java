/** Promises 1 to 8, 13 and 14: THE LINE and the DATA. */
public final class DataTest {
    public static void main(String[] args) {
        newObject();
        type();
        number();
        text();
        listAndMap();
        makersRefuseTheSixtyFirst();
        add();
        addRefusals();
        put();
        putRefusals();
        putNames();
        nothingContainsItself();
        containmentOfSharedListsEnds();
        kind();
        size();
        Bench.finish();
    }

    private static void newObject() {
        Bench b = new Bench();
        int[] counts = {0, 0, 0, 0, 0, 0};
        for (int what = 0; what < counts.length; what++) {
            int asked = what;
            Bench.due("new: count(" + what + ")", () -> b.engine.count(asked), counts[what]);
        }
        Bench.due("new: errorAt", () -> b.engine.errorAt(), -1);
        Bench.due("new: at(0)", () -> b.engine.at(0), Bench.BAD_INDEX);
        Bench.due("new: kind(0)", () -> b.engine.kind(0), Bench.NO_ELEMENT);
        b.engine.number(1);
        for (int k = 0; k < 4; k++) {
            int template = k;
            Bench.due("new: render", () -> b.engine.render(template, 0), Bench.NO_ELEMENT);
        }
    }

    private static void type() {
        Bench b = new Bench();
        Bench.due("type(-1)", () -> b.engine.type(-1), Bench.BAD_ARGUMENT);
        Bench.due("type(128)", () -> b.engine.type(128), Bench.BAD_ARGUMENT);
        Bench.due("type(MIN)", () -> b.engine.type(Integer.MIN_VALUE), Bench.BAD_ARGUMENT);
        Bench.due("type(MAX)", () -> b.engine.type(Integer.MAX_VALUE), Bench.BAD_ARGUMENT);
        Bench.due("type(0)", () -> b.engine.type(0), 1);
        Bench.due("type(127)", () -> b.engine.type(127), 2);
        for (int length = 3; length <= 200; length++) {
            Bench.due("type(97)", () -> b.engine.type(97), length);
        }
        Bench.due("type at 200", () -> b.engine.type(97), Bench.BAD_STATE);
        Bench.due("type(128) at 200", () -> b.engine.type(128), Bench.BAD_ARGUMENT);
        Bench.due("THE LINE", () -> b.engine.count(1), 200);
        Bench.due("text", () -> b.engine.text(), 0);
        Bench.due("its size", () -> b.engine.size(0), 200);
        Bench.due("type again", () -> b.engine.type(97), 1);
    }

    private static void number() {
        Bench b = new Bench();
        Bench.due("number", () -> b.engine.number(7), 0);
        Bench.due("number", () -> b.engine.number(Integer.MIN_VALUE), 1);
        Bench.due("shown", b.render("{{this}}", 0), "7");
        Bench.due("shown", b.render("{{this}}", 1), "-2147483648");
    }

    private static void text() {
        Bench b = new Bench();
        Bench.due("an empty text", () -> b.engine.text(), 0);
        b.type("abc");
        Bench.due("text", () -> b.engine.text(), 1);
        Bench.due("THE LINE is empty then", () -> b.engine.count(1), 0);
        Bench.due("what is typed later is not in it", b.render("{{this}}!", 1), "abc!");
        Bench.due("an empty text is shown", b.render("{{this}}!", 0), "!");
    }

    private static void listAndMap() {
        Bench b = new Bench();
        Bench.due("list", () -> b.engine.list(), 0);
        Bench.due("map", () -> b.engine.map(), 1);
        Bench.due("list is empty", () -> b.engine.size(0), 0);
        Bench.due("map is empty", () -> b.engine.size(1), 0);
    }

    private static void makersRefuseTheSixtyFirst() {
        Bench b = new Bench();
        for (int i = 0; i < 60; i++) {
            int place = i;
            Bench.due("making DATA", () -> place % 4 == 0 ? b.engine.number(place) : place % 4 == 1 ? b.engine.text()
                    : place % 4 == 2 ? b.engine.list() : b.engine.map(), i);
        }
        b.type("kept");
        Bench.due("number at 60", () -> b.engine.number(1), Bench.BAD_STATE);
        Bench.due("text at 60", () -> b.engine.text(), Bench.BAD_STATE);
        Bench.due("list at 60", () -> b.engine.list(), Bench.BAD_STATE);
        Bench.due("map at 60", () -> b.engine.map(), Bench.BAD_STATE);
        Bench.due("THE LINE stays", () -> b.engine.count(1), 4);
        Bench.due("DATA stay", () -> b.engine.count(0), 60);
        Bench.due("the last", () -> b.engine.kind(59), 3);
        Bench.due("none behind", () -> b.engine.kind(60), Bench.NO_ELEMENT);
    }

    private static void add() {
        Bench b = new Bench();
        b.engine.number(5);
        b.engine.list();
        for (int i = 1; i <= 10; i++) {
            Bench.due("add", () -> b.engine.add(1, 0), i);
        }
        Bench.due("add at 10", () -> b.engine.add(1, 0), Bench.BAD_STATE);
        Bench.due("still 10", () -> b.engine.size(1), 10);
        b.engine.list();
        Bench.due("an older list into a newer one", () -> b.engine.add(2, 1), 1);
        b.engine.number(6);
        Bench.due("at the end", () -> b.engine.add(2, 3), 2);
        Bench.due("in order", b.render("{{this}}", 2), "5,5,5,5,5,5,5,5,5,5,6");
    }

    private static void addRefusals() {
        Bench b = new Bench();
        b.engine.list();
        b.engine.map();
        b.engine.number(1);
        b.text("t");
        Bench.due("no such list", () -> b.engine.add(4, 0), Bench.NO_ELEMENT);
        Bench.due("no such list", () -> b.engine.add(-1, 0), Bench.NO_ELEMENT);
        Bench.due("no such element", () -> b.engine.add(0, 4), Bench.NO_ELEMENT);
        Bench.due("no such element", () -> b.engine.add(0, -1), Bench.NO_ELEMENT);
        Bench.due("no element before no list", () -> b.engine.add(1, 4), Bench.NO_ELEMENT);
        Bench.due("into a map", () -> b.engine.add(1, 2), Bench.BAD_ARGUMENT);
        Bench.due("into a number", () -> b.engine.add(2, 2), Bench.BAD_ARGUMENT);
        Bench.due("into a text", () -> b.engine.add(3, 2), Bench.BAD_ARGUMENT);
        Bench.due("into itself", () -> b.engine.add(0, 0), Bench.BAD_ARGUMENT);
        for (int i = 0; i < 10; i++) {
            b.engine.add(0, 2);
        }
        Bench.due("itself before full", () -> b.engine.add(0, 0), Bench.BAD_ARGUMENT);
        Bench.due("no element before full", () -> b.engine.add(0, 9), Bench.NO_ELEMENT);
        Bench.due("full", () -> b.engine.add(0, 2), Bench.BAD_STATE);
    }

    private static void put() {
        Bench b = new Bench();
        b.engine.map();
        b.engine.number(1);
        b.engine.number(2);
        Bench.due("put", b.put(0, "a", 1), 1);
        Bench.due("THE LINE is empty then", () -> b.engine.count(1), 0);
        Bench.due("put", b.put(0, "abcdefgh", 1), 2);
        Bench.due("put in place", b.put(0, "a", 2), 2);
        Bench.due("the newer, where the NAME was first", b.render("{{a}}{{abcdefgh}} {{#each this}}{{this}};{{/each}}", 0),
                "21 2;1;");
    }

    private static void putRefusals() {
        Bench b = new Bench();
        b.engine.map();
        b.engine.number(1);
        b.engine.list();
        b.type("a");
        Bench.due("no such map", () -> b.engine.put(3, 1), Bench.NO_ELEMENT);
        Bench.due("no such map", () -> b.engine.put(-1, 1), Bench.NO_ELEMENT);
        Bench.due("no such entry", () -> b.engine.put(0, 3), Bench.NO_ELEMENT);
        Bench.due("no such entry", () -> b.engine.put(0, -1), Bench.NO_ELEMENT);
        Bench.due("no element before no map", () -> b.engine.put(1, 3), Bench.NO_ELEMENT);
        Bench.due("into a number", () -> b.engine.put(1, 1), Bench.BAD_ARGUMENT);
        Bench.due("into a list", () -> b.engine.put(2, 1), Bench.BAD_ARGUMENT);
        Bench.due("into itself", () -> b.engine.put(0, 0), Bench.BAD_ARGUMENT);
        Bench.due("THE LINE stays", () -> b.engine.count(1), 1);
        b.engine.put(0, 1);
        for (char c = 'b'; c <= 'j'; c++) {
            b.put(0, String.valueOf(c), 1);
        }
        b.type("k");
        Bench.due("10 others", () -> b.engine.put(0, 1), Bench.BAD_STATE);
        Bench.due("itself before full", () -> b.engine.put(0, 0), Bench.BAD_ARGUMENT);
        Bench.due("THE LINE stays", () -> b.engine.count(1), 1);
        b.engine.text();
        Bench.due("one of the 10", b.put(0, "j", 2), 10);
        b.type("K");
        Bench.due("no NAME before full", () -> b.engine.put(0, 1), Bench.BAD_ARGUMENT);
    }

    private static void putNames() {
        String[] wrong = {"", "abcdefghi", "A", "a1", "1", "a b", " a", "a.", "@first", "`", "{", "zzz\0"};
        for (String name : wrong) {
            Bench b = new Bench();
            b.engine.map();
            b.engine.number(1);
            b.type(name);
            Bench.due("put as <" + name + ">", () -> b.engine.put(0, 1), Bench.BAD_ARGUMENT);
            Bench.due("THE LINE stays", () -> b.engine.count(1), name.length());
        }
        Bench b = new Bench();
        b.engine.map();
        b.engine.number(1);
        String[] right = {"a", "z", "aa", "aaaaaaaa", "zzzzzzzz", "this", "up", "else", "if"};
        for (int i = 0; i < right.length; i++) {
            Bench.due("put as <" + right[i] + ">", b.put(0, right[i], 1), i + 1);
        }
    }

    private static void nothingContainsItself() {
        Bench b = new Bench();
        b.engine.list();
        b.engine.map();
        b.engine.list();
        b.engine.map();
        b.engine.add(0, 1);
        b.put(1, "a", 2);
        b.engine.add(2, 3);
        b.type("b");
        Bench.due("round by three", () -> b.engine.put(3, 0), Bench.BAD_ARGUMENT);
        Bench.due("round by two", () -> b.engine.put(3, 1), Bench.BAD_ARGUMENT);
        Bench.due("round by one", () -> b.engine.put(3, 2), Bench.BAD_ARGUMENT);
        Bench.due("round by three", () -> b.engine.add(2, 0), Bench.BAD_ARGUMENT);
        b.engine.text();
        b.engine.number(4);
        Bench.due("what held the list holds it no more", b.put(1, "a", 5), 1);
        Bench.due("so it takes that map", () -> b.engine.add(2, 1), 2);
        Bench.due("twice is no ring", () -> b.engine.add(0, 2), 2);
    }

    private static void containmentOfSharedListsEnds() {
        Bench b = new Bench();
        for (int i = 0; i < 40; i++) {
            b.engine.list();
        }
        for (int i = 0; i < 39; i++) {
            for (int times = 0; times < 10; times++) {
                b.engine.add(i, i + 1);
            }
        }
        Bench.due("the innermost takes not the outermost", () -> b.engine.add(39, 0), Bench.BAD_ARGUMENT);
        b.engine.list();
        Bench.due("a list that is not in it", () -> b.engine.add(40, 0), 1);
    }

    private static void kind() {
        Bench b = new Bench();
        b.engine.number(3);
        b.text("3");
        b.engine.list();
        b.engine.map();
        for (int x = 0; x < 4; x++) {
            int asked = x;
            Bench.due("kind(" + x + ")", () -> b.engine.kind(asked), x);
        }
        Bench.due("kind(4)", () -> b.engine.kind(4), Bench.NO_ELEMENT);
        Bench.due("kind(-1)", () -> b.engine.kind(-1), Bench.NO_ELEMENT);
    }

    private static void size() {
        int[] numbers = {0, 9, 10, -1, -10, 99, 100, Integer.MAX_VALUE, Integer.MIN_VALUE, 1000000000, -999999999};
        Bench b = new Bench();
        for (int number : numbers) {
            int x = b.engine.number(number);
            Bench.due("size of " + number, () -> b.engine.size(x), Integer.toString(number).length());
        }
        int text = b.text("a<b");
        Bench.due("size of a text", () -> b.engine.size(text), 3);
        int list = b.list(0, text, text);
        Bench.due("size of a list", () -> b.engine.size(list), 3);
        int map = b.engine.map();
        b.put(map, "a", list);
        Bench.due("size of a map", () -> b.engine.size(map), 1);
        Bench.due("size of none", () -> b.engine.size(map + 1), Bench.NO_ELEMENT);
        Bench.due("size of none", () -> b.engine.size(-1), Bench.NO_ELEMENT);
    }
}
