import java.util.Arrays;
import java.util.NoSuchElementException;

/** Data of numbers, texts, lists and maps, and templates that are typed, taken apart once and rendered for them. */
public final class TemplateEngine {
    private static final int HIGHEST_CHARACTER = 127;
    private static final int MOST_TYPED = 200;
    private static final int MOST_DATA = 60;
    private static final int MOST_ENTRIES = 10;
    private static final int LONGEST_NAME = 8;
    private static final int MOST_DIGITS = 5;
    private static final int TEMPLATES = 4;
    private static final int MOST_OPEN_BLOCKS = 4;
    private static final int MOST_UNDER_WAY = 3;
    private static final int MOST_NESTED = MOST_OPEN_BLOCKS * MOST_UNDER_WAY;
    private static final int MOST_RENDERED = 400;
    private static final int MOST_TAGS_MET = 600;

    private static final int NUMBER = 0;
    private static final int TEXT = 1;
    private static final int LIST = 2;
    private static final int MAP = 3;

    private static final int NO_FAULT = -1;
    private static final int NO_TURN = -1;
    private static final long NO_NAME = 0;

    private final Text line = new Text(MOST_TYPED);
    private final Value[] data = new Value[MOST_DATA];
    private int dataCount;
    private int searches;
    private final Part[] templates = new Part[TEMPLATES];
    private int fault = NO_FAULT;
    private final Renderer renderer = new Renderer();
    /** A call that may throw adds one at its begin and takes it back at its end, so that just those that threw stay. */
    private int threw;

    public TemplateEngine() {
    }

    public int type(int c) throws IllegalArgumentException, IllegalStateException {
        threw++;
        if (c < 0 || c > HIGHEST_CHARACTER) {
            throw new IllegalArgumentException("no character 0 .. 127");
        }
        if (line.length >= MOST_TYPED) {
            throw new IllegalStateException("THE LINE is full");
        }
        line.append((char) c);
        threw--;
        return line.length;
    }

    public int number(int v) throws IllegalStateException {
        threw++;
        if (dataCount >= MOST_DATA) {
            throw new IllegalStateException("60 DATA were made");
        }
        threw--;
        return keep(Value.ofNumber(v));
    }

    public int text() throws IllegalStateException {
        threw++;
        if (dataCount >= MOST_DATA) {
            throw new IllegalStateException("60 DATA were made");
        }
        threw--;
        Value made = Value.ofText(line.copyOf(0, line.length));
        line.clear();
        return keep(made);
    }

    public int list() throws IllegalStateException {
        threw++;
        if (dataCount >= MOST_DATA) {
            throw new IllegalStateException("60 DATA were made");
        }
        threw--;
        return keep(Value.ofEntries(LIST));
    }

    public int map() throws IllegalStateException {
        threw++;
        if (dataCount >= MOST_DATA) {
            throw new IllegalStateException("60 DATA were made");
        }
        threw--;
        return keep(Value.ofEntries(MAP));
    }

    public int add(int l, int x) throws NoSuchElementException, IllegalArgumentException, IllegalStateException {
        threw++;
        if (!isData(l) || !isData(x)) {
            throw new NoSuchElementException("no such DATA");
        }
        Value list = data[l];
        if (list.kind != LIST || wouldHoldItself(list, data[x])) {
            throw new IllegalArgumentException("no LIST, or it would contain itself");
        }
        if (list.size >= MOST_ENTRIES) {
            throw new IllegalStateException("the LIST has 10");
        }
        list.setEntry(list.size, NO_NAME, data[x]);
        threw--;
        return list.size;
    }

    public int put(int m, int x) throws NoSuchElementException, IllegalArgumentException, IllegalStateException {
        threw++;
        if (!isData(m) || !isData(x)) {
            throw new NoSuchElementException("no such DATA");
        }
        Value map = data[m];
        long name = line.nameCode(0, line.length);
        if (map.kind != MAP || name == NO_NAME || wouldHoldItself(map, data[x])) {
            throw new IllegalArgumentException("no MAP, it would contain itself, or THE LINE is no NAME");
        }
        int place = map.placeOf(name);
        if (place >= MOST_ENTRIES) {
            throw new IllegalStateException("the MAP has 10 others");
        }
        map.setEntry(place, name, data[x]);
        line.clear();
        threw--;
        return map.size;
    }

    public int compile(int k) throws IndexOutOfBoundsException, IllegalArgumentException {
        threw++;
        if (k < 0 || k >= TEMPLATES) {
            throw new IndexOutOfBoundsException("no TEMPLATE 0 .. 3");
        }
        TemplateReader reader = new TemplateReader(line.copyOf(0, line.length));
        line.clear();
        reader.takeApart();
        fault = reader.fault;
        if (fault != NO_FAULT) {
            throw new IllegalArgumentException("the template has a FAULT");
        }
        templates[k] = reader.root;
        threw--;
        return reader.tags;
    }

    public int errorAt() {
        return fault;
    }

    public int render(int k, int x) throws IndexOutOfBoundsException, NoSuchElementException, ArithmeticException,
            IllegalStateException {
        threw++;
        if (k < 0 || k >= TEMPLATES) {
            throw new IndexOutOfBoundsException("no TEMPLATE 0 .. 3");
        }
        if (templates[k] == null || !isData(x)) {
            throw new NoSuchElementException("no such TEMPLATE or DATA");
        }
        renderer.run(templates, templates[k], data[x]);
        threw--;
        return renderer.rendered.length;
    }

    public int at(int i) throws IndexOutOfBoundsException {
        threw++;
        if (i < 0 || i >= renderer.rendered.length) {
            throw new IndexOutOfBoundsException("no such character");
        }
        threw--;
        return renderer.rendered.chars[i];
    }

    public int kind(int x) throws NoSuchElementException {
        threw++;
        if (!isData(x)) {
            throw new NoSuchElementException("no such DATA");
        }
        threw--;
        return data[x].kind;
    }

    public int size(int x) throws NoSuchElementException {
        threw++;
        if (!isData(x)) {
            throw new NoSuchElementException("no such DATA");
        }
        threw--;
        return data[x].measure();
    }

    public int count(int what) {
        switch (what) {
            case 0:
                return dataCount;
            case 1:
                return line.length;
            case 2:
                return templatesThere();
            case 3:
                return renderer.rendered.length;
            case 4:
                return renderer.tagsRendered;
            case 5:
                return threw;
            default:
                return -1;
        }
    }

    private boolean isData(int x) {
        return x >= 0 && x < dataCount;
    }

    private int keep(Value made) {
        data[dataCount] = made;
        dataCount++;
        return dataCount - 1;
    }

    private int templatesThere() {
        int there = 0;
        for (int k = 0; k < TEMPLATES; k++) {
            if (templates[k] != null) {
                there++;
            }
        }
        return there;
    }

    private boolean wouldHoldItself(Value whole, Value entry) {
        searches++;
        return isWithin(whole, entry, 0);
    }

    /** Each DATA is looked into just once in a search: the ways through shared DATA can be too many to go. */
    private boolean isWithin(Value sought, Value place, int depth) {
        if (place == sought) {
            return true;
        }
        if (place.lastSearch == searches || depth >= MOST_DATA) {
            return false;
        }
        place.lastSearch = searches;
        for (int i = 0; i < place.size; i++) {
            if (isWithin(sought, place.entries[i], depth + 1)) {
                return true;
            }
        }
        return false;
    }

    /** A row of characters that refuses to grow beyond what it was made for. */
    private static final class Text {
        private final char[] chars;
        private int length;

        private Text(int most) {
            chars = new char[most];
        }

        private void clear() {
            length = 0;
        }

        private void append(char c) {
            if (length >= chars.length) {
                throw new IllegalStateException("the text would be too long");
            }
            chars[length] = c;
            length++;
        }

        private void appendWord(String word) {
            for (int i = 0; i < word.length(); i++) {
                append(word.charAt(i));
            }
        }

        private void appendText(Text other) {
            for (int i = 0; i < other.length; i++) {
                append(other.chars[i]);
            }
        }

        private void appendEscaped(Text other) {
            for (int i = 0; i < other.length; i++) {
                char c = other.chars[i];
                if (c == '&') {
                    appendWord("&amp;");
                } else if (c == '<') {
                    appendWord("&lt;");
                } else if (c == '>') {
                    appendWord("&gt;");
                } else if (c == '"') {
                    appendWord("&quot;");
                } else {
                    append(c);
                }
            }
        }

        /** The digits are taken from the number as it is, below 0 too: the lowest int has no opposite. */
        private void appendNumber(int number) {
            if (number < 0) {
                append('-');
            }
            int unit = 1;
            for (int rest = number / 10; rest != 0; rest /= 10) {
                unit *= 10;
            }
            for (; unit != 0; unit /= 10) {
                append((char) ('0' + Math.abs(number / unit % 10)));
            }
        }

        private void raiseLetters() {
            for (int i = 0; i < length; i++) {
                if (chars[i] >= 'a' && chars[i] <= 'z') {
                    chars[i] = (char) (chars[i] - 'a' + 'A');
                }
            }
        }

        private Text copyOf(int from, int to) {
            Text copy = new Text(Math.max(0, to - from));
            for (int i = from; i < to; i++) {
                copy.append(chars[i]);
            }
            return copy;
        }

        private boolean isLike(Text other) {
            if (length != other.length) {
                return false;
            }
            for (int i = 0; i < length; i++) {
                if (chars[i] != other.chars[i]) {
                    return false;
                }
            }
            return true;
        }

        /** Whether the word stands at the place and ends before the bound. */
        private boolean hasWord(String word, int place, int bound) {
            if (place + word.length() > bound || bound > length) {
                return false;
            }
            for (int i = 0; i < word.length(); i++) {
                if (chars[place + i] != word.charAt(i)) {
                    return false;
                }
            }
            return true;
        }

        /** The first place from there on where the word stands; the text's length if there is none. */
        private int find(String word, int from) {
            for (int i = from; i < length; i++) {
                if (hasWord(word, i, length)) {
                    return i;
                }
            }
            return length;
        }

        /** A number above 0 that no other NAME has, so that NAMES are compared at once; NO_NAME if this is none. */
        private long nameCode(int from, int to) {
            if (to <= from || to - from > LONGEST_NAME) {
                return NO_NAME;
            }
            long code = 0;
            for (int i = from; i < to; i++) {
                if (chars[i] < 'a' || chars[i] > 'z') {
                    return NO_NAME;
                }
                code = code * 27 + (chars[i] - 'a' + 1);
            }
            return code;
        }
    }

    /** DATA, or a NUMBER or TEXT that a template has or a HELPER gives; NOTHING is null everywhere. */
    private static final class Value {
        private int kind;
        private int number;
        private Text text;
        private Value[] entries;
        private long[] names;
        private int size;
        private int lastSearch;

        private static Value ofNumber(int number) {
            Value made = new Value();
            made.kind = NUMBER;
            made.number = number;
            return made;
        }

        private static Value ofText(Text text) {
            Value made = new Value();
            made.kind = TEXT;
            made.text = text;
            return made;
        }

        private static Value ofEntries(int kind) {
            Value made = new Value();
            made.kind = kind;
            made.entries = new Value[MOST_ENTRIES];
            made.names = new long[MOST_ENTRIES];
            return made;
        }

        private Value becomeNumber(int given) {
            kind = NUMBER;
            number = given;
            return this;
        }

        private void setEntry(int place, long name, Value entry) {
            entries[place] = entry;
            names[place] = name;
            size = Math.max(size, place + 1);
        }

        /** Where the NAME stands, or where a new one would. */
        private int placeOf(long name) {
            for (int i = 0; i < size; i++) {
                if (names[i] == name) {
                    return i;
                }
            }
            return size;
        }

        /** A LIST's entries have no NAME, so that none is found there. */
        private Value entryNamed(long name) {
            for (int i = 0; i < size; i++) {
                if (names[i] == name) {
                    return entries[i];
                }
            }
            return null;
        }

        private Value elementAt(int place) {
            return kind == LIST && place >= 0 && place < size ? entries[place] : null;
        }

        private boolean isFalse() {
            switch (kind) {
                case NUMBER:
                    return number == 0;
                case TEXT:
                    return text.length == 0;
                case LIST:
                    return size == 0;
                default:
                    return false;
            }
        }

        /** What len gives. */
        private int measure() {
            if (kind == TEXT) {
                return text.length;
            }
            if (kind != NUMBER) {
                return size;
            }
            int digits = number < 0 ? 2 : 1;
            for (int rest = number / 10; rest != 0; rest /= 10) {
                digits++;
            }
            return digits;
        }
    }

    private enum Helper {
        NONE("", 1), UP("up ", 1), LEN("len ", 1), NOT("not ", 1), ADD("add ", 2), EQ("eq ", 2), AT("at ", 2);

        private final String opening;
        private final int operands;

        Helper(String opening, int operands) {
            this.opening = opening;
            this.operands = operands;
        }
    }

    private enum OperandSort { PATH, INDEX, FIRST, LITERAL }

    private static final class Operand {
        private final OperandSort sort;
        private Value literal;
        private int back;
        /** A NAME's code, which is above 0, or -1 - k for the digit k. */
        private long[] steps;

        private Operand(OperandSort sort) {
            this.sort = sort;
        }
    }

    private static final class Expression {
        private final Helper helper;
        private final Operand first;
        private final Operand second;

        private Expression(Helper helper, Operand first, Operand second) {
            this.helper = helper;
            this.first = first;
            this.second = second;
        }
    }

    private enum Sort { ROOT, PLAIN, RAW, SHOWN, REMARK, PARTIAL, IF, EACH, WITH, ELSE, END_IF, END_EACH, END_WITH }

    /** A TAG or a row of plain characters; a block and a whole template (the ROOT) have the parts inside of them. */
    private static final class Part {
        private final Sort sort;
        private final int place;
        private Text plain;
        private Expression expression;
        private int partial;
        private Part next;
        private Part body;
        private Part other;
        private boolean hasElse;

        private Part(Sort sort, int place) {
            this.sort = sort;
            this.place = place;
        }
    }

    /** Takes one template's text apart. */
    private static final class TemplateReader {
        private static final Helper[] HELPERS = Helper.values();

        private final Text source;
        private final Part root = new Part(Sort.ROOT, 0);
        /** The ROOT, and behind it the blocks that have no end yet. */
        private final Part[] open = new Part[MOST_OPEN_BLOCKS + 1];
        private int openBlocks;
        /** What the next part comes behind; null at the begin of a body or other part. */
        private Part last;
        private int tags;
        private int fault = NO_FAULT;
        /** The next character of the INSIDE that is read, and where the INSIDE ends. */
        private int cursor;
        private int end;
        private final long[] steps = new long[MOST_TYPED];

        private TemplateReader(Text source) {
            this.source = source;
            open[0] = root;
        }

        private void takeApart() {
            int from = 0;
            for (int i = 0; i <= MOST_TYPED && from < source.length && fault == NO_FAULT; i++) {
                int place = source.find("{{", from);
                attachPlain(from, place);
                from = place;
                if (place < source.length) {
                    boolean raw = source.hasWord("{{{", place, source.length);
                    String closing = raw ? "}}}" : "}}";
                    cursor = place + closing.length();
                    end = source.find(closing, cursor);
                    Part tag = end < source.length ? readRest(readSort(raw), place) : null;
                    if (tag == null || !takeIn(tag)) {
                        fault = place;
                    }
                    tags++;
                    from = end + closing.length();
                }
            }
            if (fault == NO_FAULT && openBlocks > 0) {
                fault = open[openBlocks].place;
            }
        }

        private void attachPlain(int from, int to) {
            if (from < to) {
                Part part = new Part(Sort.PLAIN, from);
                part.plain = source.copyOf(from, to);
                attach(part);
            }
        }

        private void attach(Part part) {
            Part block = open[openBlocks];
            if (last != null) {
                last.next = part;
            } else if (block.hasElse) {
                block.other = part;
            } else {
                block.body = part;
            }
            last = part;
        }

        /** Puts the TAG where it belongs; false if no block fits it or if it is a block too many. */
        private boolean takeIn(Part tag) {
            switch (tag.sort) {
                case IF:
                case EACH:
                case WITH:
                    return beginBlock(tag);
                case ELSE:
                    return beginOther();
                case END_IF:
                    return endBlock(Sort.IF);
                case END_EACH:
                    return endBlock(Sort.EACH);
                case END_WITH:
                    return endBlock(Sort.WITH);
                default:
                    attach(tag);
                    return true;
            }
        }

        private boolean beginBlock(Part block) {
            if (openBlocks >= MOST_OPEN_BLOCKS) {
                return false;
            }
            attach(block);
            openBlocks++;
            open[openBlocks] = block;
            last = null;
            return true;
        }

        private boolean beginOther() {
            if (openBlocks == 0 || open[openBlocks].hasElse) {
                return false;
            }
            open[openBlocks].hasElse = true;
            last = null;
            return true;
        }

        private boolean endBlock(Sort sort) {
            if (openBlocks == 0 || open[openBlocks].sort != sort) {
                return false;
            }
            last = open[openBlocks];
            openBlocks--;
            return true;
        }

        private Sort readSort(boolean raw) {
            if (raw) {
                return Sort.RAW;
            }
            if (accept("!")) {
                return Sort.REMARK;
            }
            if (accept("#if ")) {
                return Sort.IF;
            }
            if (accept("#each ")) {
                return Sort.EACH;
            }
            if (accept("#with ")) {
                return Sort.WITH;
            }
            if (accept("> ")) {
                return Sort.PARTIAL;
            }
            if (isInside("else")) {
                return Sort.ELSE;
            }
            if (isInside("/if")) {
                return Sort.END_IF;
            }
            if (isInside("/each")) {
                return Sort.END_EACH;
            }
            return isInside("/with") ? Sort.END_WITH : Sort.SHOWN;
        }

        /** The TAG as a part; null if its INSIDE is not as it must be. */
        private Part readRest(Sort sort, int place) {
            Part tag = new Part(sort, place);
            switch (sort) {
                case REMARK:
                case ELSE:
                case END_IF:
                case END_EACH:
                case END_WITH:
                    return tag;
                case PARTIAL:
                    tag.partial = end - cursor == 1 ? source.chars[cursor] - 'a' : TEMPLATES;
                    return tag.partial >= 0 && tag.partial < TEMPLATES ? tag : null;
                default:
                    tag.expression = readExpression();
                    return tag.expression == null ? null : tag;
            }
        }

        private Expression readExpression() {
            Helper helper = readHelper();
            Operand first = readOperand();
            Operand second = null;
            if (first != null && helper.operands == 2) {
                second = accept(" ") ? readOperand() : null;
                if (second == null) {
                    return null;
                }
            }
            return first == null || cursor != end ? null : new Expression(helper, first, second);
        }

        /** A HELPER's name without a blank behind it is a PATH. */
        private Helper readHelper() {
            for (int i = 0; i < HELPERS.length; i++) {
                if (HELPERS[i] != Helper.NONE && accept(HELPERS[i].opening)) {
                    return HELPERS[i];
                }
            }
            return Helper.NONE;
        }

        private Operand readOperand() {
            if (isDigitNext()) {
                return readNumber();
            }
            if (accept("\"")) {
                return readQuoted();
            }
            if (accept("@index")) {
                return new Operand(OperandSort.INDEX);
            }
            if (accept("@first")) {
                return new Operand(OperandSort.FIRST);
            }
            return readPath();
        }

        private Operand readNumber() {
            int number = 0;
            for (int i = 0; i < MOST_DIGITS && isDigitNext(); i++) {
                number = number * 10 + readDigit();
            }
            Operand operand = new Operand(OperandSort.LITERAL);
            operand.literal = Value.ofNumber(number);
            return operand;
        }

        /** What stands from behind a quotation mark to the next one. */
        private Operand readQuoted() {
            for (int i = cursor; i < end && source.chars[i] != '}'; i++) {
                if (source.chars[i] == '"') {
                    Operand operand = new Operand(OperandSort.LITERAL);
                    operand.literal = Value.ofText(source.copyOf(cursor, i));
                    cursor = i + 1;
                    return operand;
                }
            }
            return null;
        }

        private Operand readPath() {
            Operand path = new Operand(OperandSort.PATH);
            while (path.back < MOST_TYPED && accept("../")) {
                path.back++;
            }
            int begin = cursor;
            long step = readName();
            boolean isThis = cursor - begin == 4 && source.hasWord("this", begin, cursor);
            int taken = 0;
            if (!isThis) {
                steps[taken] = step;
                taken++;
            }
            while (!isThis && step != NO_NAME && taken < steps.length && accept(".")) {
                step = isDigitNext() ? -1 - readDigit() : readName();
                steps[taken] = step;
                taken++;
            }
            path.steps = Arrays.copyOf(steps, taken);
            return step == NO_NAME ? null : path;
        }

        private long readName() {
            int begin = cursor;
            while (cursor < end && source.chars[cursor] >= 'a' && source.chars[cursor] <= 'z') {
                cursor++;
            }
            return source.nameCode(begin, cursor);
        }

        private boolean isDigitNext() {
            return cursor < end && source.chars[cursor] >= '0' && source.chars[cursor] <= '9';
        }

        /** Just behind isDigitNext. */
        private int readDigit() {
            cursor++;
            return source.chars[cursor - 1] - '0';
        }

        private boolean accept(String word) {
            boolean there = source.hasWord(word, cursor, end);
            if (there) {
                cursor += word.length();
            }
            return there;
        }

        private boolean isInside(String word) {
            return end - cursor == word.length() && source.hasWord(word, cursor, end);
        }
    }

    /** Renders templates; all that it needs is made once, so that a render makes no object. */
    private static final class Renderer {
        private final Value[] contexts = new Value[MOST_NESTED + 1];
        private int contextCount;
        /** One for each depth of blocks: what a block's expression gives must last as long as the block. */
        private final Value[] slots = new Value[MOST_NESTED + 1];
        private final Value secondSlot = Value.ofNumber(0);
        private final Text left = new Text(MOST_RENDERED);
        private final Text right = new Text(MOST_RENDERED);
        private Text result = new Text(MOST_RENDERED);
        private Text rendered = new Text(MOST_RENDERED);
        private Part[] templates;
        private int underWay;
        private int turn;
        private int tagsMet;
        private int tagsRendered;

        private Renderer() {
            for (int i = 0; i < slots.length; i++) {
                slots[i] = Value.ofText(new Text(MOST_RENDERED));
            }
        }

        private void run(Part[] all, Part root, Value value) {
            templates = all;
            result.clear();
            contexts[0] = value;
            contextCount = 1;
            underWay = 1;
            turn = NO_TURN;
            tagsMet = 0;
            renderParts(root.body, 0);
            Text before = rendered;
            rendered = result;
            result = before;
            tagsRendered = tagsMet;
        }

        private void renderParts(Part first, int depth) {
            for (Part part = first; part != null; part = part.next) {
                switch (part.sort) {
                    case PLAIN:
                        result.appendText(part.plain);
                        break;
                    case RAW:
                        meetTag();
                        showRaw(evaluate(part.expression, slots[depth]), result, 0);
                        break;
                    case SHOWN:
                        meetTag();
                        showEscaped(evaluate(part.expression, slots[depth]));
                        break;
                    case PARTIAL:
                        meetTag();
                        renderPartial(part.partial, depth);
                        break;
                    case IF:
                    case EACH:
                    case WITH:
                        meetTag();
                        renderBlock(part, depth);
                        break;
                    default:
                        meetTag();
                        break;
                }
            }
        }

        private void meetTag() {
            if (tagsMet >= MOST_TAGS_MET) {
                throw new IllegalStateException("a 601st TAG would be come to");
            }
            tagsMet++;
        }

        private void renderPartial(int partial, int depth) {
            Part root = templates[partial];
            if (root == null) {
                throw new NoSuchElementException("no such partial");
            }
            if (underWay >= MOST_UNDER_WAY) {
                throw new ArithmeticException("a 4th TEMPLATE would be under way");
            }
            int outerTurn = turn;
            turn = NO_TURN;
            underWay++;
            renderParts(root.body, depth);
            underWay--;
            turn = outerTurn;
        }

        /** No template that was taken apart nests deeper than there are slots; the test keeps it so. */
        private void renderBlock(Part block, int depth) {
            if (depth >= MOST_NESTED) {
                return;
            }
            Value value = evaluate(block.expression, slots[depth]);
            if (block.sort == Sort.IF) {
                renderParts(isFalse(value) ? block.other : block.body, depth + 1);
            } else if (block.sort == Sort.WITH && value != null) {
                contexts[contextCount] = value;
                contextCount++;
                renderParts(block.body, depth + 1);
                contextCount--;
            } else if (block.sort == Sort.EACH && value != null && value.size > 0) {
                renderEach(block, value, depth);
            } else {
                renderParts(block.other, depth + 1);
            }
        }

        private void renderEach(Part block, Value value, int depth) {
            int outerTurn = turn;
            contextCount++;
            for (int i = 0; i < value.size; i++) {
                contexts[contextCount - 1] = value.entries[i];
                turn = i;
                renderParts(block.body, depth + 1);
            }
            contextCount--;
            turn = outerTurn;
        }

        /** The slot takes what is reckoned; what is found in the DATA is given as it is. */
        private Value evaluate(Expression expression, Value slot) {
            Value first = valueOf(expression.first, slot);
            Value second = expression.second == null ? null : valueOf(expression.second, secondSlot);
            switch (expression.helper) {
                case UP:
                    slot.text.clear();
                    showRaw(first, slot.text, 0);
                    slot.text.raiseLetters();
                    slot.kind = TEXT;
                    return slot;
                case LEN:
                    return slot.becomeNumber(first == null ? 0 : first.measure());
                case NOT:
                    return slot.becomeNumber(isFalse(first) ? 1 : 0);
                case ADD:
                    return isNumber(first) && isNumber(second) ? slot.becomeNumber(first.number + second.number) : null;
                case EQ:
                    left.clear();
                    showRaw(first, left, 0);
                    right.clear();
                    showRaw(second, right, 0);
                    return slot.becomeNumber(left.isLike(right) ? 1 : 0);
                case AT:
                    return first != null && isNumber(second) ? first.elementAt(second.number) : null;
                default:
                    return first;
            }
        }

        private Value valueOf(Operand operand, Value slot) {
            switch (operand.sort) {
                case LITERAL:
                    return operand.literal;
                case INDEX:
                    return turn == NO_TURN ? null : slot.becomeNumber(turn);
                case FIRST:
                    return turn == NO_TURN ? null : slot.becomeNumber(turn == 0 ? 1 : 0);
                default:
                    return follow(operand);
            }
        }

        private Value follow(Operand path) {
            int context = contextCount - 1 - path.back;
            Value value = context < 0 ? null : contexts[context];
            for (int i = 0; i < path.steps.length && value != null; i++) {
                long step = path.steps[i];
                value = step < 0 ? value.elementAt((int) (-1 - step)) : value.entryNamed(step);
            }
            return value;
        }

        /** By way of the raw text: where that is too long for its row, the result would be so, too. */
        private void showEscaped(Value value) {
            left.clear();
            showRaw(value, left, 0);
            result.appendEscaped(left);
        }

        /** Lists that share lists may have no end in sight: it is the row's refusal to grow that ends them. */
        private static void showRaw(Value value, Text out, int depth) {
            if (value == null || depth > MOST_DATA) {
                return;
            }
            switch (value.kind) {
                case NUMBER:
                    out.appendNumber(value.number);
                    break;
                case TEXT:
                    out.appendText(value.text);
                    break;
                case LIST:
                    for (int i = 0; i < value.size; i++) {
                        if (i > 0) {
                            out.append(',');
                        }
                        showRaw(value.entries[i], out, depth + 1);
                    }
                    break;
                default:
                    out.appendWord("[map]");
                    break;
            }
        }

        private static boolean isFalse(Value value) {
            return value == null || value.isFalse();
        }

        private static boolean isNumber(Value value) {
            return value != null && value.kind == NUMBER;
        }
    }
}
