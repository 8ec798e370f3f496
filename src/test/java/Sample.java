/** DATA of every kind for tests of what is rendered. */
final class Sample {
    private Sample() {
    }

    /** Number 0 is the map that holds the others by their names. */
    static Bench bench() {
        Bench b = new Bench();
        int root = b.engine().map();
        int seven = b.engine().number(7);
        int zero = b.engine().number(0);
        int text = b.text("x<y");
        int map = b.engine().map();
        int list = b.list(seven, text, zero, b.list(zero, seven), map);
        b.put(root, "n", seven);
        b.put(root, "z", zero);
        b.put(root, "t", text);
        b.put(root, "m", map);
        b.put(root, "l", list);
        b.put(map, "b", b.engine().number(-5));
        b.put(map, "c", b.text("abc"));
        b.put(map, "this", b.engine().number(9));
        b.put(root, "et", b.engine().text());
        b.put(root, "el", b.engine().list());
        b.put(root, "em", b.engine().map());
        b.put(root, "min", b.engine().number(Integer.MIN_VALUE));
        b.put(root, "q", b.text("&<>\"'a"));
        return b;
    }

    static void shows(String template, String want) {
        Bench.due(template, bench().render(template, 0), want);
    }

    /** A LIST that is shown raw with as many characters, 360 at least. */
    static int longList(Bench b, int length) {
        int part = b.text(Bench.times(39, "a"));
        int rest = b.text(Bench.times(length - 360, "b"));
        return b.list(part, part, part, part, part, part, part, part, part, rest);
    }

    static int tenNumbers(Bench b) {
        int list = b.engine().list();
        for (int i = 0; i < 10; i++) {
            b.engine().add(list, b.engine().number(i));
        }
        return list;
    }
}
