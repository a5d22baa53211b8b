import java.util.ArrayList;

/** A store of people for provisioning. README.md tells where the document with its promises lies. */
public final class PeopleStore {
    public static final int SYNTAX = -400;
    public static final int UNFIT = -401;
    public static final int MUTABILITY = -402;
    public static final int NOTARGET = -403;
    public static final int MISSING = -404;
    public static final int UNIQUE = -409;
    public static final int VERSION = -412;
    public static final int FULL = -413;

    private static final int FINE = 0;
    private static final int NOWHERE = -1;
    private static final int PEOPLE_LIMIT = 8;
    private static final int[] SORT_KEYS = {
        Attribute.ID, Attribute.NAME, Attribute.AGE, Attribute.ON, Attribute.MAIL
    };

    private final Buffer buffer = new Buffer();
    // They stand in the order of their ids, since each newcomer has the highest one.
    private final ArrayList<Person> people = new ArrayList<>();
    private final ArrayList<Person> found = new ArrayList<>();
    private final int[] pageIds = new int[PEOPLE_LIMIT];
    private final StringBuilder written = new StringBuilder();
    private int pageSize;
    private int lastId;

    public PeopleStore() {
    }

    public boolean put(int word, int n) {
        if (n < 1 || n > 4 || !buffer.hasRoomFor(n)) {
            return false;
        }
        for (int place = n - 1; place >= 0; place--) {
            if (!Buffer.isAllowed(byteAt(word, place))) {
                return false;
            }
        }
        for (int place = n - 1; place >= 0; place--) {
            buffer.append(byteAt(word, place));
        }
        return true;
    }

    public int create() {
        Value object = takeObject();
        if (object == null) {
            return SYNTAX;
        }
        Person made = Person.from(object, lastId + 1);
        if (made == null) {
            return UNFIT;
        }
        if (isNameTaken(made)) {
            return UNIQUE;
        }
        if (people.size() >= PEOPLE_LIMIT) {
            return FULL;
        }
        people.add(made);
        lastId++;
        return lastId;
    }

    public int replace(int id, int version) {
        Value object = takeObject();
        int place = placeOf(id);
        int refusal = refusalAt(place, version);
        if (refusal != FINE) {
            return refusal;
        }
        if (object == null) {
            return SYNTAX;
        }
        Person made = Person.from(object, id);
        if (made == null) {
            return UNFIT;
        }
        return settle(place, made);
    }

    public int patch(int id, int version) {
        Operation first = Operation.readAll(buffer);
        buffer.clear();
        int place = placeOf(id);
        int refusal = refusalAt(place, version);
        if (refusal != FINE) {
            return refusal;
        }
        if (first == null) {
            return SYNTAX;
        }
        Person draft = people.get(place).copy();
        for (Operation each = first; each != null; each = each.next) {
            int error = each.applyTo(draft);
            if (error != FINE) {
                return error;
            }
        }
        return settle(place, draft);
    }

    public int remove(int id, int version) {
        int place = placeOf(id);
        int refusal = refusalAt(place, version);
        if (refusal == FINE) {
            people.remove(place);
        }
        return refusal;
    }

    public int query(int sort, boolean down, int start, int count) {
        buffer.split();
        boolean all = buffer.isAt(Buffer.END);
        Filter filter = all ? null : Filter.readOr(buffer, 0, false);
        boolean whole = buffer.isAt(Buffer.END);
        buffer.clear();
        if (!all && (filter == null || !whole)) {
            return SYNTAX;
        }
        if (sort < 0 || sort >= SORT_KEYS.length) {
            return UNFIT;
        }
        found.clear();
        for (int i = 0; i < people.size(); i++) {
            Person each = people.get(i);
            if (filter == null || filter.matches(each, null)) {
                insertFound(each, SORT_KEYS[sort], down);
            }
        }
        turnPage(start, count);
        return found.size();
    }

    public int page(int k) {
        return k >= 0 && k < pageSize ? pageIds[k] : MISSING;
    }

    public int resources() {
        return people.size();
    }

    public int version(int id) {
        int place = placeOf(id);
        return place == NOWHERE ? MISSING : people.get(place).version.number;
    }

    public int length(int id) {
        int place = placeOf(id);
        if (place == NOWHERE) {
            return MISSING;
        }
        write(place);
        return written.length();
    }

    public int letter(int id, int k) {
        int place = placeOf(id);
        if (place == NOWHERE || k < 0) {
            return 0;
        }
        write(place);
        return k < written.length() ? written.charAt(k) : 0;
    }

    private static char byteAt(int word, int place) {
        return (char) (word >>> (8 * place) & 255);
    }

    private static char fold(char c) {
        return c >= 'A' && c <= 'Z' ? (char) (c + ('a' - 'A')) : c;
    }

    private static String foldAll(String text) {
        char[] letters = text.toCharArray();
        for (int i = 0; i < letters.length; i++) {
            letters[i] = fold(letters[i]);
        }
        return new String(letters);
    }

    /** The object that the buffer's text is, or null; the buffer is empty then. */
    private Value takeObject() {
        buffer.split();
        Value value = Value.read(buffer, 0);
        boolean whole = buffer.isAt(Buffer.END);
        buffer.clear();
        return value != null && whole && value.kind == Value.OBJECT ? value : null;
    }

    private int placeOf(int id) {
        for (int i = 0; i < people.size(); i++) {
            if (people.get(i).id.number == id) {
                return i;
            }
        }
        return NOWHERE;
    }

    private int refusalAt(int place, int version) {
        if (place == NOWHERE) {
            return MISSING;
        }
        return version == 0 || version == people.get(place).version.number ? FINE : VERSION;
    }

    private boolean isNameTaken(Person wanting) {
        for (int i = 0; i < people.size(); i++) {
            Person each = people.get(i);
            boolean another = each.id.number != wanting.id.number;
            if (another && Value.same(each.foldedName, wanting.foldedName)) {
                return true;
            }
        }
        return false;
    }

    /** Puts the changed person in its place, unless its name is taken; answers its version. */
    private int settle(int place, Person changed) {
        if (isNameTaken(changed)) {
            return UNIQUE;
        }
        Person old = people.get(place);
        if (changed.isLike(old)) {
            return old.version.number;
        }
        changed.version = new Value(old.version.number + 1);
        people.set(place, changed);
        return changed.version.number;
    }

    /** People come here by id, up; stopping at those alike keeps them so, also when it goes down. */
    private void insertFound(Person person, int key, boolean down) {
        int place = found.size();
        while (place > 0 && comesBefore(person, found.get(place - 1), key, down)) {
            place--;
        }
        found.add(place, person);
    }

    private static boolean comesBefore(Person one, Person other, int key, boolean down) {
        Value mine = one.sortValue(key);
        Value yours = other.sortValue(key);
        int order;
        if (mine == null || yours == null) {
            order = (mine == null ? 1 : 0) - (yours == null ? 1 : 0);
        } else {
            order = mine.compare(yours);
        }
        return down ? order > 0 : order < 0;
    }

    private void turnPage(int start, int count) {
        pageSize = 0;
        for (int i = Math.max(start, 1) - 1; i < found.size() && pageSize < count; i++) {
            pageIds[pageSize] = found.get(i).id.number;
            pageSize++;
        }
    }

    private void write(int place) {
        written.setLength(0);
        people.get(place).writeTo(written);
    }

    /** The buffer, and the tokens of its text with a mark at the current one. */
    private static final class Buffer {
        static final int LIMIT = 120;

        // What a token can be; a sign or a newline is its own character.
        static final int END = 0;
        static final int WORD = 1;
        static final int NUMBER = 2;
        static final int STRING = 3;
        // No text has one of these, so that what is no token makes every text wrong.
        static final int NO_TOKEN = 4;

        private static final String SIGNS = "{}[]():,.+-=\n";
        private static final int DIGITS_LIMIT = 9;

        private final char[] letters = new char[LIMIT];
        // One more than there can be tokens: behind the last one stands END.
        private final int[] kinds = new int[LIMIT + 1];
        private final int[] starts = new int[LIMIT + 1];
        private final int[] ends = new int[LIMIT + 1];
        private final StringBuilder spelled = new StringBuilder();
        private int used;
        private int tokens;
        private int current;

        static boolean isAllowed(char c) {
            return c == '\n' || c >= ' ' && c <= '~';
        }

        boolean hasRoomFor(int n) {
            return n <= LIMIT - used;
        }

        void append(char c) {
            if (used < LIMIT) {
                letters[used] = c;
                used++;
            }
        }

        void clear() {
            used = 0;
        }

        /** Makes the tokens of the text, with the mark at the first; all that read them begin so. */
        void split() {
            current = 0;
            int at = skipSpaces(0);
            for (tokens = 0; tokens < LIMIT && at < used; tokens++) {
                splitOff(at);
                at = skipSpaces(ends[tokens]);
            }
            kinds[tokens] = END;
        }

        int kind() {
            return kinds[current];
        }

        boolean isAt(int kind) {
            return kinds[current] == kind;
        }

        void next() {
            if (current < tokens) {
                current++;
            }
        }

        boolean take(int kind) {
            boolean there = kinds[current] == kind;
            if (there) {
                next();
            }
            return there;
        }

        /** Whether this word, given in small letters, stood at the mark, which is behind it then. */
        boolean takeWord(String word) {
            if (kinds[current] != WORD || ends[current] - starts[current] != word.length()) {
                return false;
            }
            for (int i = 0; i < word.length(); i++) {
                if (letters[starts[current] + i] != word.charAt(i)) {
                    return false;
                }
            }
            current++;
            return true;
        }

        /** The current word in small letters; the empty text when there is none. */
        String takeAnyWord() {
            if (kinds[current] != WORD) {
                return "";
            }
            String word = text();
            current++;
            return word;
        }

        /** What the current word or string stands for. */
        String text() {
            if (current >= tokens) {
                return "";
            }
            spelled.setLength(0);
            int quote = kinds[current] == STRING ? 1 : 0;
            int end = ends[current] - quote;
            for (int i = starts[current] + quote; i < end; i++) {
                if (letters[i] == '\\' && i + 1 < end) {
                    i++;
                }
                spelled.append(letters[i]);
            }
            return spelled.toString();
        }

        int number() {
            if (kinds[current] != NUMBER) {
                return 0;
            }
            int start = starts[current];
            boolean negative = letters[start] == '-';
            int value = 0;
            for (int i = negative ? start + 1 : start; i < ends[current]; i++) {
                value = value * 10 + (letters[i] - '0');
            }
            return negative ? -value : value;
        }

        private int skipSpaces(int at) {
            int i = at;
            while (i < used && letters[i] == ' ') {
                i++;
            }
            return i;
        }

        private void splitOff(int at) {
            char c = letters[at];
            int kind = SIGNS.indexOf(c) >= 0 ? c : NO_TOKEN;
            int end = at + 1;
            if (isLetter(at)) {
                kind = WORD;
                end = foldWord(at);
            } else if (isDigit(at) || c == '-' && isDigit(at + 1)) {
                kind = NUMBER;
                end = endOfNumber(c == '-' ? at + 1 : at);
            } else if (c == '"' && endOfString(at) > at) {
                kind = STRING;
                end = endOfString(at);
            }
            kinds[tokens] = kind;
            starts[tokens] = at;
            ends[tokens] = end;
        }

        private boolean isLetter(int at) {
            return at < used && fold(letters[at]) >= 'a' && fold(letters[at]) <= 'z';
        }

        private boolean isDigit(int at) {
            return at < used && letters[at] >= '0' && letters[at] <= '9';
        }

        // The text is used up anyway: its words may be written small, once for all that look.
        private int foldWord(int at) {
            int i = at;
            while (i < used && isLetter(i)) {
                letters[i] = fold(letters[i]);
                i++;
            }
            return i;
        }

        private int endOfNumber(int firstDigit) {
            if (letters[firstDigit] == '0') {
                return firstDigit + 1;
            }
            int i = firstDigit;
            while (i < firstDigit + DIGITS_LIMIT && isDigit(i)) {
                i++;
            }
            return i;
        }

        /** Behind the closing quote, or where it began if that is no string. */
        private int endOfString(int at) {
            for (int i = at + 1; i < used; i++) {
                char c = letters[i];
                if (c == '"') {
                    return i + 1;
                }
                if (c == '\n') {
                    return at;
                }
                if (c == '\\') {
                    i++;
                    if (i >= used || "\"\\/".indexOf(letters[i]) < 0) {
                        return at;
                    }
                }
            }
            return at;
        }
    }

    /** The attributes of people and of their items, by number. */
    private static final class Attribute {
        static final int NONE = -1;
        static final int ID = 0;
        static final int VERSION = 1;
        static final int NAME = 2;
        static final int AGE = 3;
        static final int ON = 4;
        static final int MAIL = 5;
        static final int V = 6;
        static final int P = 7;

        private static final int TEXT_LIMIT = 12;
        // In filters mail stands for the v of its items: hence a string.
        private static final int[] KINDS = {
            Value.NUMBER, Value.NUMBER, Value.STRING, Value.NUMBER, Value.TRUTH,
            Value.STRING, Value.STRING, Value.TRUTH
        };

        static String nameOf(int attribute) {
            switch (attribute) {
                case ID: return "id";
                case VERSION: return "version";
                case NAME: return "name";
                case AGE: return "age";
                case ON: return "on";
                case MAIL: return "mail";
                case V: return "v";
                default: return "p";
            }
        }

        static int kindOf(int attribute) {
            return attribute >= 0 && attribute < KINDS.length ? KINDS[attribute] : NONE;
        }

        static int ofPerson(String name) {
            for (int attribute = ID; attribute <= MAIL; attribute++) {
                if (nameOf(attribute).equals(name)) {
                    return attribute;
                }
            }
            return NONE;
        }

        static int ofItem(String name) {
            if (name.equals("v")) {
                return V;
            }
            return name.equals("p") ? P : NONE;
        }

        static boolean isOfItem(int attribute) {
            return attribute == V || attribute == P;
        }

        static boolean isReadOnly(int attribute) {
            return attribute == ID || attribute == VERSION;
        }

        /** Whether the value is of the kind and length of an attribute other than mail. */
        static boolean fits(int attribute, Value value) {
            if (value == null || value.kind != kindOf(attribute)) {
                return false;
            }
            int letters = value.text.length();
            return value.kind != Value.STRING || letters >= 1 && letters <= TEXT_LIMIT;
        }
    }

    /** A value of a text; it never changes. */
    private static final class Value {
        static final int TRUTH = 0;
        static final int NUMBER = 1;
        static final int STRING = 2;
        static final int OBJECT = 3;
        static final int ARRAY = 4;

        private static final int DEPTH_LIMIT = 3;

        private final int kind;
        // A truth is 1 or 0, so that false comes first.
        private final int number;
        private final String text;
        private final Part first;

        Value(boolean truth) {
            kind = TRUTH;
            number = truth ? 1 : 0;
            text = "";
            first = null;
        }

        Value(int number) {
            kind = NUMBER;
            this.number = number;
            text = "";
            first = null;
        }

        Value(String text) {
            kind = STRING;
            number = 0;
            this.text = text;
            first = null;
        }

        Value(int kind, Part first) {
            this.kind = kind;
            number = 0;
            text = "";
            this.first = first;
        }

        static boolean same(Value one, Value other) {
            if (one == null || other == null) {
                return one == null && other == null;
            }
            return one.compare(other) == 0;
        }

        /** The value at the mark, which goes behind it; null when there is none. */
        private static Value read(Buffer in, int depth) {
            if (in.isAt('{') || in.isAt('[')) {
                return depth < DEPTH_LIMIT ? readParts(in, depth + 1) : null;
            }
            return readPlain(in);
        }

        /** A value that is no object or array. */
        static Value readPlain(Buffer in) {
            if (in.takeWord("true")) {
                return new Value(true);
            }
            if (in.takeWord("false")) {
                return new Value(false);
            }
            Value value = null;
            if (in.isAt(Buffer.NUMBER)) {
                value = new Value(in.number());
            } else if (in.isAt(Buffer.STRING)) {
                value = new Value(in.text());
            }
            in.next();
            return value;
        }

        private static Value readParts(Buffer in, int depth) {
            int kind = in.isAt('{') ? OBJECT : ARRAY;
            int close = kind == OBJECT ? '}' : ']';
            in.next();
            if (in.take(close)) {
                return new Value(kind, null);
            }
            Part first = null;
            Part last = null;
            for (int i = 0; i < Buffer.LIMIT; i++) {
                Part part = kind == OBJECT ? readMember(in, depth, first) : readElement(in, depth);
                if (part == null) {
                    return null;
                }
                if (last == null) {
                    first = part;
                } else {
                    last.next = part;
                }
                last = part;
                if (in.take(close)) {
                    return new Value(kind, first);
                }
                if (!in.take(',')) {
                    return null;
                }
            }
            return null;
        }

        private static Part readElement(Buffer in, int depth) {
            Value value = read(in, depth);
            return value == null ? null : new Part("", value);
        }

        /** A member with a name that none of those before it has. */
        private static Part readMember(Buffer in, int depth, Part before) {
            if (!in.isAt(Buffer.STRING)) {
                return null;
            }
            String name = foldAll(in.text());
            in.next();
            for (Part each = before; each != null; each = each.next) {
                if (each.name.equals(name)) {
                    return null;
                }
            }
            Value value = in.take(':') ? read(in, depth) : null;
            return value == null ? null : new Part(name, value);
        }

        /** Below, at or above 0 as this comes before, with or behind the other of its kind. */
        int compare(Value other) {
            int shorter = Math.min(text.length(), other.text.length());
            for (int i = 0; i < shorter; i++) {
                int order = text.charAt(i) - other.text.charAt(i);
                if (order != 0) {
                    return order;
                }
            }
            // The number of a string is always 0, and the text of all else is empty.
            int order = Integer.compare(text.length(), other.text.length());
            return order != 0 ? order : Integer.compare(number, other.number);
        }

        /** Whether the other's text stands in this one's at one of the places from .. to. */
        boolean has(Value other, int from, int to) {
            for (int place = Math.max(from, 0); place <= to; place++) {
                int alike = 0;
                while (alike < other.text.length() && place + alike < text.length()
                        && text.charAt(place + alike) == other.text.charAt(alike)) {
                    alike++;
                }
                if (alike == other.text.length()) {
                    return true;
                }
            }
            return false;
        }

        void writeTo(StringBuilder out) {
            if (kind == NUMBER) {
                out.append(number);
            } else if (kind == TRUTH) {
                out.append(number == 1 ? "true" : "false");
            } else {
                writeTextTo(out);
            }
        }

        private void writeTextTo(StringBuilder out) {
            out.append('"');
            for (int i = 0; i < text.length(); i++) {
                char c = text.charAt(i);
                if (c == '"' || c == '\\') {
                    out.append('\\');
                }
                out.append(c);
            }
            out.append('"');
        }
    }

    /** A member of an object, its name in small letters, or an element of an array, without one. */
    private static final class Part {
        private final String name;
        private final Value value;
        private Part next;

        Part(String name, Value value) {
            this.name = name;
            this.value = value;
        }
    }

    /** A filter, or a piece of one. */
    private static final class Filter {
        private static final int ANY = 0;
        private static final int ALL = 1;
        private static final int NOT = 2;
        private static final int ITEM = 3;
        private static final int COMPARISON = 4;

        private static final int NO_OPERATOR = -1;
        private static final int PR = 0;
        private static final int EQ = 1;
        private static final int NE = 2;
        private static final int CO = 3;
        private static final int SW = 4;
        private static final int EW = 5;
        private static final int GT = 6;
        private static final int GE = 7;
        private static final int LT = 8;
        private static final int LE = 9;

        private static final int DEPTH_LIMIT = 6;

        private final int kind;
        private final int attribute;
        private final int operator;
        private final Value value;
        private Filter first;
        private Filter next;

        private Filter(int kind, int attribute, int operator, Value value) {
            this.kind = kind;
            this.attribute = attribute;
            this.operator = operator;
            this.value = value;
        }

        /** An OR at the mark, depth pairs around it, within [ ] or not; null when there is none. */
        private static Filter readOr(Buffer in, int depth, boolean within) {
            Filter any = around(ANY, null);
            Filter all = around(ALL, null);
            for (int i = 0; i < Buffer.LIMIT; i++) {
                Filter term = readTerm(in, depth, within);
                if (term == null) {
                    return null;
                }
                all.adopt(term);
                if (!in.takeWord("and")) {
                    any.adopt(all);
                    if (!in.takeWord("or")) {
                        return any;
                    }
                    all = around(ALL, null);
                }
            }
            return null;
        }

        /** What stands in the pair that is open at the mark. */
        private static Filter readGroup(Buffer in, int close, int depth, boolean within) {
            in.next();
            Filter inner = depth < DEPTH_LIMIT ? readOr(in, depth + 1, within) : null;
            return inner != null && in.take(close) ? inner : null;
        }

        private static Filter readTerm(Buffer in, int depth, boolean within) {
            boolean not = in.takeWord("not");
            if (in.isAt('(')) {
                Filter inner = readGroup(in, ')', depth, within);
                return inner != null && not ? around(NOT, inner) : inner;
            }
            if (not) {
                return null;
            }
            if (within) {
                return readComparison(in, Attribute.ofItem(in.takeAnyWord()));
            }
            int attribute = Attribute.ofPerson(in.takeAnyWord());
            if (attribute != Attribute.MAIL) {
                return readComparison(in, attribute);
            }
            if (in.isAt('[')) {
                Filter inner = readGroup(in, ']', depth, true);
                return inner == null ? null : around(ITEM, inner);
            }
            boolean dotted = in.take('.');
            return readComparison(in, dotted ? Attribute.ofItem(in.takeAnyWord()) : Attribute.V);
        }

        private static Filter readComparison(Buffer in, int attribute) {
            int operator = operatorNamed(in.takeAnyWord());
            if (attribute == Attribute.NONE || operator == NO_OPERATOR) {
                return null;
            }
            if (operator == PR) {
                return new Filter(COMPARISON, attribute, operator, null);
            }
            int kind = Attribute.kindOf(attribute);
            Value value = Value.readPlain(in);
            if (value == null || value.kind != kind || !standsWith(operator, kind)) {
                return null;
            }
            boolean folded = attribute == Attribute.NAME;
            Value sought = folded ? new Value(foldAll(value.text)) : value;
            return new Filter(COMPARISON, attribute, operator, sought);
        }

        private static int operatorNamed(String word) {
            for (int operator = PR; operator <= LE; operator++) {
                if (nameOf(operator).equals(word)) {
                    return operator;
                }
            }
            return NO_OPERATOR;
        }

        private static String nameOf(int operator) {
            switch (operator) {
                case PR: return "pr";
                case EQ: return "eq";
                case NE: return "ne";
                case CO: return "co";
                case SW: return "sw";
                case EW: return "ew";
                case GT: return "gt";
                case GE: return "ge";
                case LT: return "lt";
                default: return "le";
            }
        }

        private static boolean standsWith(int operator, int kind) {
            switch (operator) {
                case EQ:
                case NE:
                    return true;
                case CO:
                case SW:
                case EW:
                    return kind == Value.STRING;
                default:
                    return kind != Value.TRUTH;
            }
        }

        private static Filter around(int kind, Filter inner) {
            Filter made = new Filter(kind, Attribute.NONE, NO_OPERATOR, null);
            made.first = inner;
            return made;
        }

        // The order of the pieces does not matter, so the newest goes ahead.
        private void adopt(Filter piece) {
            piece.next = first;
            first = piece;
        }

        /** Whether it matches the person, or, within [ ], the item of it. */
        private boolean matches(Person person, Item item) {
            if (kind == COMPARISON) {
                return operator == NE ? !compares(EQ, person, item) : compares(operator, person, item);
            }
            if (kind == ITEM) {
                for (int i = 0; first != null && i < person.items.size(); i++) {
                    if (first.matches(person, person.items.get(i))) {
                        return true;
                    }
                }
                return false;
            }
            if (kind == NOT) {
                return first != null && !first.matches(person, item);
            }
            boolean decisive = kind == ANY;
            for (Filter each = first; each != null; each = each.next) {
                if (each.matches(person, item) == decisive) {
                    return decisive;
                }
            }
            return !decisive;
        }

        private boolean compares(int asked, Person person, Item item) {
            if (item != null) {
                return holds(asked, item.get(attribute));
            }
            if (!Attribute.isOfItem(attribute)) {
                return holds(asked, person.compared(attribute));
            }
            for (int i = 0; i < person.items.size(); i++) {
                if (holds(asked, person.items.get(i).get(attribute))) {
                    return true;
                }
            }
            return false;
        }

        private boolean holds(int asked, Value own) {
            if (own == null || value == null) {
                return own != null && asked == PR;
            }
            int last = own.text.length() - value.text.length();
            switch (asked) {
                case EQ: return own.compare(value) == 0;
                case CO: return own.has(value, 0, last);
                case SW: return own.has(value, 0, 0);
                case EW: return own.has(value, last, last);
                case GT: return own.compare(value) > 0;
                case GE: return own.compare(value) >= 0;
                case LT: return own.compare(value) < 0;
                default: return own.compare(value) <= 0;
            }
        }
    }

    /** An item of mail; also what an item's object says, then perhaps without v. */
    private static final class Item {
        private Value v;
        private Value p;
        // Whether the operation that is being done is for it, and whether it gave it p true.
        private boolean chosen;
        private boolean given;

        Item(Value v, Value p) {
            this.v = v;
            this.p = p;
        }

        /** What an item's object says; null when the value is none. */
        static Item from(Value object) {
            if (object.kind != Value.OBJECT) {
                return null;
            }
            Item made = new Item(null, null);
            for (Part each = object.first; each != null; each = each.next) {
                int attribute = Attribute.ofItem(each.name);
                if (!Attribute.fits(attribute, each.value)) {
                    return null;
                }
                if (attribute == Attribute.V) {
                    made.v = each.value;
                } else {
                    made.p = each.value;
                }
            }
            return made;
        }

        /** What a whole item's object or an array of such says; null when the value is neither. */
        static ArrayList<Item> wholeOnes(Value value) {
            ArrayList<Item> made = new ArrayList<>();
            Part first = value.kind == Value.ARRAY ? value.first : new Part("", value);
            for (Part each = first; each != null; each = each.next) {
                Item item = from(each.value);
                if (item == null || item.v == null) {
                    return null;
                }
                made.add(item);
            }
            return made;
        }

        Value get(int attribute) {
            return attribute == Attribute.V ? v : p;
        }

        boolean isPrimary() {
            return p != null && p.number == 1;
        }

        boolean isLike(Item other) {
            return Value.same(v, other.v) && Value.same(p, other.p);
        }

        void give(Value truth) {
            p = truth;
            given = isPrimary();
        }

        void become(Item other) {
            v = other.v;
            give(other.p);
        }

        void gain(Item other) {
            if (other.v != null) {
                v = other.v;
            }
            if (other.p != null) {
                give(other.p);
            }
        }

        void writeTo(StringBuilder out) {
            out.append('{');
            Person.writeMember(out, Attribute.V, v);
            Person.writeMember(out, Attribute.P, p);
            out.append('}');
        }
    }

    /** A resource. */
    private static final class Person {
        private static final int ITEM_LIMIT = 4;

        private final Value id;
        private Value version;
        private Value name;
        private Value foldedName;
        private Value age;
        private Value on;
        private ArrayList<Item> items = new ArrayList<>();

        private Person(Value id, Value version) {
            this.id = id;
            this.version = version;
        }

        /** A person of version 1 made from an object; null when that is unfit. */
        static Person from(Value object, int id) {
            Person made = new Person(new Value(id), new Value(1));
            for (Part each = object.first; each != null; each = each.next) {
                if (!made.accepts(Attribute.ofPerson(each.name), each.value)) {
                    return null;
                }
            }
            return made.name == null ? null : made;
        }

        private boolean accepts(int attribute, Value value) {
            if (Attribute.isReadOnly(attribute)) {
                return true;
            }
            if (attribute == Attribute.MAIL) {
                return value.kind == Value.ARRAY && acceptsMail(Item.wholeOnes(value));
            }
            if (!Attribute.fits(attribute, value)) {
                return false;
            }
            set(attribute, value);
            return true;
        }

        private boolean acceptsMail(ArrayList<Item> given) {
            if (given == null || given.size() > ITEM_LIMIT) {
                return false;
            }
            items = given;
            int primaries = 0;
            for (int i = 0; i < items.size(); i++) {
                if (items.get(i).isPrimary()) {
                    primaries++;
                }
            }
            return primaries <= 1 && !hasTwins();
        }

        Person copy() {
            Person made = new Person(id, version);
            made.name = name;
            made.foldedName = foldedName;
            made.age = age;
            made.on = on;
            for (int i = 0; i < items.size(); i++) {
                Item each = items.get(i);
                made.items.add(new Item(each.v, each.p));
            }
            return made;
        }

        /** Whether it is the same resource but for the version. */
        boolean isLike(Person other) {
            if (!Value.same(name, other.name) || !Value.same(age, other.age)
                    || !Value.same(on, other.on) || items.size() != other.items.size()) {
                return false;
            }
            for (int i = 0; i < items.size(); i++) {
                if (!items.get(i).isLike(other.items.get(i))) {
                    return false;
                }
            }
            return true;
        }

        Value get(int attribute) {
            switch (attribute) {
                case Attribute.ID: return id;
                case Attribute.VERSION: return version;
                case Attribute.NAME: return name;
                case Attribute.AGE: return age;
                case Attribute.ON: return on;
                default: return null;
            }
        }

        /** Gives an attribute that may change a value; null, but for name, takes it away. */
        void set(int attribute, Value value) {
            if (attribute == Attribute.NAME && value != null) {
                name = value;
                foldedName = new Value(foldAll(value.text));
            } else if (attribute == Attribute.AGE) {
                age = value;
            } else if (attribute == Attribute.ON) {
                on = value;
            }
        }

        /** What filters and sorting see of an attribute: a name as if capital letters were small. */
        Value compared(int attribute) {
            return attribute == Attribute.NAME ? foldedName : get(attribute);
        }

        Value sortValue(int key) {
            if (key != Attribute.MAIL) {
                return compared(key);
            }
            for (int i = 0; i < items.size(); i++) {
                if (items.get(i).isPrimary()) {
                    return items.get(i).v;
                }
            }
            return items.isEmpty() ? null : items.get(0).v;
        }

        boolean hasTwins() {
            for (int i = 0; i < items.size(); i++) {
                for (int j = 0; j < i; j++) {
                    if (Value.same(items.get(i).v, items.get(j).v)) {
                        return true;
                    }
                }
            }
            return false;
        }

        /** Adds a whole item, or gives its p to the one that has its v; false when there is no room. */
        boolean merge(Item whole) {
            for (int i = 0; i < items.size(); i++) {
                if (Value.same(items.get(i).v, whole.v)) {
                    items.get(i).gain(whole);
                    return true;
                }
            }
            if (items.size() >= ITEM_LIMIT) {
                return false;
            }
            Item made = new Item(null, null);
            made.become(whole);
            items.add(made);
            return true;
        }

        /** Of the items that the operation gave p true, the foremost is the only one that keeps it. */
        void keepOnePrimary() {
            int keeper = NOWHERE;
            for (int i = items.size() - 1; i >= 0; i--) {
                if (items.get(i).given) {
                    keeper = i;
                }
            }
            for (int i = 0; i < items.size(); i++) {
                Item each = items.get(i);
                each.given = false;
                if (keeper != NOWHERE && i != keeper && each.isPrimary()) {
                    each.p = new Value(false);
                }
            }
        }

        void writeTo(StringBuilder out) {
            out.append('{');
            for (int attribute = Attribute.ID; attribute <= Attribute.ON; attribute++) {
                writeMember(out, attribute, get(attribute));
            }
            if (!items.isEmpty()) {
                writeMailTo(out);
            }
            out.append('}');
        }

        private void writeMailTo(StringBuilder out) {
            out.append(",\"mail\":[");
            for (int i = 0; i < items.size(); i++) {
                if (i > 0) {
                    out.append(',');
                }
                items.get(i).writeTo(out);
            }
            out.append(']');
        }

        static void writeMember(StringBuilder out, int attribute, Value value) {
            if (value == null) {
                return;
            }
            // These two are always there and come first.
            if (attribute != Attribute.ID && attribute != Attribute.V) {
                out.append(',');
            }
            out.append('"');
            out.append(Attribute.nameOf(attribute));
            out.append("\":");
            value.writeTo(out);
        }
    }

    /** An operation of a patch. */
    private static final class Operation {
        private final int sign;
        // The target: NONE for nothing, MAIL with a filter for items, V and P for those of items.
        private int attribute = Attribute.NONE;
        private Filter filter;
        private Value value;
        private Operation next;

        private Operation(int sign) {
            this.sign = sign;
        }

        /** The operations of the buffer's text; null when it is no patch. */
        static Operation readAll(Buffer in) {
            in.split();
            Operation first = null;
            Operation last = null;
            for (int i = 0; i < Buffer.LIMIT; i++) {
                Operation each = new Operation(in.kind());
                in.next();
                if (!each.hasSign() || !each.readTarget(in) || !each.readValue(in)) {
                    return null;
                }
                if (last == null) {
                    first = each;
                } else {
                    last.next = each;
                }
                last = each;
                if (in.isAt(Buffer.END)) {
                    return first;
                }
                if (!in.take('\n')) {
                    return null;
                }
            }
            return null;
        }

        private boolean hasSign() {
            return sign == '+' || sign == '-' || sign == '=';
        }

        private boolean readTarget(Buffer in) {
            if (!in.isAt(Buffer.WORD)) {
                return sign != '-';
            }
            attribute = Attribute.ofPerson(in.takeAnyWord());
            if (attribute == Attribute.MAIL && in.take('[')) {
                filter = Filter.readOr(in, 1, true);
                if (filter == null || !in.take(']')) {
                    return false;
                }
            }
            if (attribute == Attribute.MAIL && in.take('.')) {
                attribute = Attribute.ofItem(in.takeAnyWord());
            }
            return attribute != Attribute.NONE;
        }

        private boolean readValue(Buffer in) {
            if (sign == '-') {
                return true;
            }
            value = in.take(':') ? Value.read(in, 0) : null;
            return value != null;
        }

        /** Changes the draft and answers FINE, or an error, and then the draft is of no use. */
        int applyTo(Person draft) {
            if (attribute != Attribute.NONE) {
                return applyToTarget(draft, attribute, value);
            }
            if (value == null || value.kind != Value.OBJECT) {
                return UNFIT;
            }
            for (Part each = value.first; each != null; each = each.next) {
                int named = Attribute.ofPerson(each.name);
                int error = FINE;
                if (named == Attribute.NONE) {
                    error = UNFIT;
                } else if (!Attribute.isReadOnly(named)) {
                    error = applyToTarget(draft, named, each.value);
                }
                if (error != FINE) {
                    return error;
                }
            }
            return FINE;
        }

        private int applyToTarget(Person draft, int target, Value given) {
            if (Attribute.isOfItem(target)) {
                return applyToItemParts(draft, chooseItems(draft));
            }
            if (filter != null) {
                return applyToItems(draft, chooseItems(draft));
            }
            if (target == Attribute.MAIL) {
                return applyToMail(draft, given);
            }
            return applyToPlain(draft, target, given);
        }

        private int applyToPlain(Person draft, int target, Value given) {
            boolean taken = sign == '-';
            if (Attribute.isReadOnly(target) || taken && target == Attribute.NAME) {
                return MUTABILITY;
            }
            if (!taken && !Attribute.fits(target, given)) {
                return UNFIT;
            }
            draft.set(target, given);
            return FINE;
        }

        private int applyToMail(Person draft, Value given) {
            if (sign == '-' || given == null) {
                draft.items.clear();
                return FINE;
            }
            ArrayList<Item> newcomers = Item.wholeOnes(given);
            if (newcomers == null) {
                return UNFIT;
            }
            if (sign == '=') {
                draft.items.clear();
            }
            for (int i = 0; i < newcomers.size(); i++) {
                if (!draft.merge(newcomers.get(i))) {
                    return FULL;
                }
            }
            return finish(draft);
        }

        private int applyToItemParts(Person draft, boolean anyChosen) {
            boolean taken = sign == '-';
            if (taken && attribute == Attribute.V) {
                return MUTABILITY;
            }
            if (!taken && !anyChosen) {
                return NOTARGET;
            }
            if (!taken && !Attribute.fits(attribute, value)) {
                return UNFIT;
            }
            for (int i = 0; i < draft.items.size(); i++) {
                Item each = draft.items.get(i);
                if (each.chosen && attribute == Attribute.V) {
                    each.v = value;
                } else if (each.chosen) {
                    each.give(value);
                }
            }
            return finish(draft);
        }

        private int applyToItems(Person draft, boolean anyChosen) {
            if (sign == '-' || value == null) {
                dropChosen(draft);
                return FINE;
            }
            if (!anyChosen) {
                return NOTARGET;
            }
            Item said = Item.from(value);
            if (said == null || sign == '=' && said.v == null) {
                return UNFIT;
            }
            for (int i = 0; i < draft.items.size(); i++) {
                Item each = draft.items.get(i);
                if (each.chosen && sign == '=') {
                    each.become(said);
                } else if (each.chosen) {
                    each.gain(said);
                }
            }
            return finish(draft);
        }

        /** Marks the items that the operation is for, before it changes one; whether there are any. */
        private boolean chooseItems(Person draft) {
            boolean any = false;
            for (int i = 0; i < draft.items.size(); i++) {
                Item each = draft.items.get(i);
                each.chosen = filter == null || filter.matches(draft, each);
                any = any || each.chosen;
            }
            return any;
        }

        private static void dropChosen(Person draft) {
            for (int i = draft.items.size() - 1; i >= 0; i--) {
                if (draft.items.get(i).chosen) {
                    draft.items.remove(i);
                }
            }
        }

        private static int finish(Person draft) {
            draft.keepOnePrimary();
            return draft.hasTwins() ? UNFIT : FINE;
        }
    }
}
