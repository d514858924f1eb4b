/**
 * A court of concepts: reads a book of statements about names and roles, works out all kinds of
 * things that there can be, and answers what can be and what stands under what.
 */
public final class TypeCourt {
    public static final int NONE = -1, STATE = -101, UNKNOWN = -102, OUTSIDE = -103, FULL = -104;

    private static final int TAPE_BYTES = 2000;
    private static final int FEED_BYTES = 20;
    private static final int WORD_BYTES = 8;

    private static final int NAMES = 5;
    private static final int ROLES = 3;
    private static final int RULES = 12;
    private static final int QUESTIONS = 12;
    private static final int CONCEPTS = 200;
    private static final int ATOMS = 9;
    private static final int DEPTH = 12;
    private static final int TYPES = 1 << ATOMS;

    /** The shortest statement without a limit of its own, 'single r;', has nine bytes. */
    private static final int STATEMENTS = RULES + QUESTIONS + TAPE_BYTES / 9;
    /** A book's text grows by at most a byte a statement, two more a RULE, two a bracket pair. */
    private static final int OUT_BYTES = TAPE_BYTES + STATEMENTS + 2 * RULES + 2 * CONCEPTS;
    /** Each EDGE stems from a set bit of its own, and all TYPES together have so many. */
    private static final int EDGES = TYPES * ATOMS / 2;

    /** Rows of bits over all TYPES are kept in so many longs. */
    private static final int ROW = TYPES / 64;

    // A WORD is kept as its bytes in one long, the last byte lowest; so are SIGNS.
    private static final long ASK = 0x61736BL;
    private static final long UNDER = 0x756E646572L;
    private static final long SINGLE = 0x73696E676C65L;
    private static final long OR = 0x6F72L;
    private static final long AND = 0x616E64L;
    private static final long NOT = 0x6E6F74L;
    private static final long SOME = 0x736F6D65L;
    private static final long EVERY = 0x6576657279L;
    private static final long TOP = 0x746F70L;
    private static final long BOTTOM = 0x626F74746F6DL;
    private static final long LESS = '<';
    private static final long EQUAL = '=';
    private static final long END_SIGN = ';';
    private static final long OPEN = '(';
    private static final long CLOSE = ')';

    // What a TOKEN is.
    private static final int NO_TOKEN = 0;
    private static final int THE_END = 1;
    private static final int SIGN = 2;
    private static final int KEYWORD = 3;
    private static final int FREE_WORD = 4;

    // What a CONCEPT is. The order matters to the printing: what binds more loosely comes later.
    private static final int IS_NAME = 0;
    private static final int IS_TOP = 1;
    private static final int IS_BOTTOM = 2;
    private static final int IS_NOT = 3;
    private static final int IS_SOME = 4;
    private static final int IS_EVERY = 5;
    private static final int IS_AND = 6;
    private static final int IS_OR = 7;

    // What a statement is.
    private static final int LESS_RULE = 0;
    private static final int EQUAL_RULE = 1;
    private static final int QUESTION = 2;
    private static final int ROLE_ORDER = 3;
    private static final int SINGLE_ROLE = 4;

    private final byte[] tape;
    private int tapeSize;
    private final Reader reader;
    private Book book;
    private Book spare;
    private boolean told;
    private final Kinds kinds;
    private final World world;
    private final Printer printer;

    public TypeCourt() {
        tape = new byte[TAPE_BYTES];
        book = new Book();
        spare = new Book();
        reader = new Reader(tape, spare);
        kinds = new Kinds(book);
        world = new World();
        printer = new Printer(book);
    }

    public int feed(int a, int b, int c, int d, int e) {
        if (tapeSize > TAPE_BYTES - FEED_BYTES) {
            return FULL;
        }
        feedOne(a);
        feedOne(b);
        feedOne(c);
        feedOne(d);
        feedOne(e);
        return tapeSize;
    }

    private void feedOne(int number) {
        for (int shift = 24; shift >= 0; shift -= 8) {
            if (tapeSize >= 0 && tapeSize < tape.length) {
                tape[tapeSize] = (byte) (number >> shift);
                tapeSize++;
            }
        }
    }

    public int cut(int n) {
        if (n < 0 || n > tapeSize) {
            return OUTSIDE;
        }
        int gone = tapeSize - n;
        tapeSize = n;
        return gone;
    }

    public int read() {
        boolean taken = reader.takeIn(tapeSize, spare);
        tapeSize = 0;
        if (!taken) {
            return -reader.fault;
        }
        // The book there was stays whole until its heir is whole; then they change places.
        Book old = book;
        book = spare;
        spare = old;
        told = true;
        kinds.workOut(book);
        world.clear();
        return book.conceptCount;
    }

    public int place() {
        return reader.faultPlace;
    }

    public int count(int what) {
        if (what == 11) {
            return printer.size;
        }
        if (!told) {
            return STATE;
        }
        switch (what) {
            case 0: return book.nameCount;
            case 1: return book.roleCount;
            case 2: return book.ruleCount;
            case 3: return book.questionCount;
            case 4: return book.conceptCount;
            case 5: return book.concepts.atomCount;
            case 6: return kinds.sizeOf(kinds.fair);
            case 7: return kinds.sizeOf(kinds.standing);
            case 8: return kinds.rounds;
            case 9: return world.thingCount;
            case 10: return world.edgeCount;
            default: return OUTSIDE;
        }
    }

    public int atom(int k, int what) {
        if (!told) {
            return STATE;
        }
        if (k < 0 || k >= book.concepts.atomCount) {
            return UNKNOWN;
        }
        switch (what) {
            case 0: return book.concepts.roleOfAtom(k);
            case 1: return book.concepts.nameOfAtom(k);
            default: return OUTSIDE;
        }
    }

    public int rank(int type) {
        if (!told) {
            return STATE;
        }
        return kinds.isType(type) ? kinds.rankOf(type) : UNKNOWN;
    }

    public int goes(int type, int role, int to) {
        if (!told) {
            return STATE;
        }
        if (!kinds.isType(type) || !kinds.isType(to)) {
            return UNKNOWN;
        }
        if (role < 0 || role >= book.roleCount) {
            return OUTSIDE;
        }
        return oneIf(kinds.leads(type, role, to));
    }

    public int at(int q, int type) {
        if (!told) {
            return STATE;
        }
        if (!isQuestion(q) || !kinds.isType(type)) {
            return UNKNOWN;
        }
        return oneIf(kinds.isAt(book.question(q), type));
    }

    public int ask(int q) {
        if (!told) {
            return STATE;
        }
        if (!isQuestion(q)) {
            return UNKNOWN;
        }
        return oneIf(kinds.leastWhere(book.question(q), kinds.standing) != NONE);
    }

    public int isUnder(int a, int b) {
        if (!told) {
            return STATE;
        }
        if (!isName(a) || !isName(b)) {
            return UNKNOWN;
        }
        return oneIf(standsUnder(a, b));
    }

    public int next(int a, int i) {
        if (!told) {
            return STATE;
        }
        if (!isName(a)) {
            return UNKNOWN;
        }
        int met = 0;
        for (int b = 0; b < book.nameCount; b++) {
            if (isNextAbove(a, b)) {
                if (met == i) {
                    return b;
                }
                met++;
            }
        }
        return NONE;
    }

    public int world(int q) {
        if (!told) {
            return STATE;
        }
        if (!isQuestion(q)) {
            return UNKNOWN;
        }
        world.build(kinds, book.question(q));
        return world.thingCount;
    }

    public int thing(int t) {
        if (!told) {
            return STATE;
        }
        return t >= 0 && t < world.thingCount ? world.things[t] : UNKNOWN;
    }

    public int edge(int e, int what) {
        if (!told) {
            return STATE;
        }
        if (e < 0 || e >= world.edgeCount) {
            return UNKNOWN;
        }
        switch (what) {
            case 0: return world.from(e);
            case 1: return world.to(e);
            case 2: return world.role(e);
            default: return OUTSIDE;
        }
    }

    public int bones(int q) {
        if (!told) {
            return STATE;
        }
        return isQuestion(q) ? kinds.rulesThatForbid(book.question(q)) : UNKNOWN;
    }

    public int same(int p, int q) {
        if (!told) {
            return STATE;
        }
        if (!isQuestion(p) || !isQuestion(q)) {
            return UNKNOWN;
        }
        return oneIf(kinds.agree(book.question(p), book.question(q)));
    }

    public int print() {
        if (!told) {
            return STATE;
        }
        printer.printBook(book);
        return printer.size;
    }

    public int out(int i) {
        return i >= 0 && i < printer.size ? printer.bytes[i] : NONE;
    }

    public int back() {
        tapeSize = Math.min(printer.size, TAPE_BYTES);
        System.arraycopy(printer.bytes, 0, tape, 0, tapeSize);
        return tapeSize;
    }

    private static int oneIf(boolean yes) {
        return yes ? 1 : 0;
    }

    private boolean isQuestion(int q) {
        return q >= 0 && q < book.questionCount;
    }

    private boolean isName(int a) {
        return a >= 0 && a < book.nameCount;
    }

    private boolean standsUnder(int a, int b) {
        return kinds.implies(book.concepts.nodeOfName(a), book.concepts.nodeOfName(b));
    }

    private boolean isStrictlyUnder(int a, int b) {
        return standsUnder(a, b) && !standsUnder(b, a);
    }

    private boolean isNextAbove(int a, int b) {
        if (!isStrictlyUnder(a, b)) {
            return false;
        }
        for (int between = 0; between < book.nameCount; between++) {
            if (isStrictlyUnder(a, between) && isStrictlyUnder(between, b)) {
                return false;
            }
        }
        return true;
    }

    /** Takes a text apart into TOKENS; shows one at a time. */
    private static final class Tokens {
        private final byte[] text;
        private int length;
        private int next;
        int from;
        int sort;
        long word;

        Tokens(byte[] text) {
            this.text = text;
        }

        void start(int length) {
            this.length = Math.min(length, text.length);
            next = 0;
            step();
        }

        void step() {
            skipBlanks();
            from = next;
            word = 0;
            if (next >= length) {
                sort = THE_END;
            } else if (isLetter(text[next]) || isDigit(text[next])) {
                takeRow();
            } else {
                takeSign();
            }
        }

        private void skipBlanks() {
            while (next < length && (text[next] == 10 || text[next] == 32)) {
                next++;
            }
        }

        private void takeRow() {
            boolean isWord = isLetter(text[from]);
            while (next < length && (isLetter(text[next]) || isDigit(text[next]))) {
                word = word << 8 | text[next];
                next++;
            }
            if (!isWord || next - from > WORD_BYTES) {
                word = 0;
                sort = NO_TOKEN;
            } else {
                sort = isKeyword(word) ? KEYWORD : FREE_WORD;
            }
        }

        private void takeSign() {
            byte sign = text[next];
            next++;
            if (sign == LESS || sign == EQUAL || sign == END_SIGN || sign == OPEN || sign == CLOSE) {
                word = sign;
                sort = SIGN;
            } else {
                sort = NO_TOKEN;
            }
        }

        private static boolean isLetter(int sign) {
            return sign >= 'a' && sign <= 'z';
        }

        private static boolean isDigit(int sign) {
            return sign >= '0' && sign <= '9';
        }

        private static boolean isKeyword(long word) {
            return word == ASK || word == UNDER || word == SINGLE || word == OR || word == AND
                || word == NOT || word == SOME || word == EVERY || word == TOP || word == BOTTOM;
        }

        boolean beginsConcept() {
            return sort == FREE_WORD || word == TOP || word == BOTTOM || holdsConcept();
        }

        boolean holdsConcept() {
            return word == NOT || word == SOME || word == EVERY || word == OPEN;
        }
    }

    /**
     * The CONCEPTS and ATOMS of a book. Concepts that are LIKE share one node, so that being LIKE
     * is having the same number; a node's parts have lower numbers than it has.
     */
    private static final class Concepts {
        private final int[] sorts = new int[CONCEPTS];
        private final int[] lefts = new int[CONCEPTS];
        private final int[] rights = new int[CONCEPTS];
        private final int[] atoms = new int[CONCEPTS];
        int size;
        private final int[] atomRoles = new int[ATOMS];
        private final int[] atomNames = new int[ATOMS];
        private final int[] atomParts = new int[ATOMS];
        private final int[] atomTurns = new int[ATOMS];
        int atomCount;

        void clear() {
            size = 0;
            atomCount = 0;
        }

        /** For a NAME left is its number; for some, every right is the ROLE. NONE: no ATOM is left. */
        int make(int sort, int left, int right) {
            int known = find(sort, left, right);
            if (known != NONE || size >= CONCEPTS) {
                return known;
            }
            int atom = NONE;
            if (sort == IS_NAME) {
                atom = atomFor(NONE, left, NONE, 0);
            } else if (sort == IS_SOME) {
                atom = atomOfRole(right, left, 0);
            } else if (sort == IS_EVERY) {
                boolean stripped = sortOf(left) == IS_NOT;
                atom = stripped ? atomOfRole(right, leftOf(left), 0) : atomOfRole(right, left, 1);
            }
            if (atom == NONE && (sort == IS_NAME || sort == IS_SOME || sort == IS_EVERY)) {
                return NONE;
            }
            sorts[size] = sort;
            lefts[size] = left;
            rights[size] = right;
            atoms[size] = atom;
            size++;
            return size - 1;
        }

        private int find(int sort, int left, int right) {
            for (int n = 0; n < size; n++) {
                if (sorts[n] == sort && lefts[n] == left && rights[n] == right) {
                    return n;
                }
            }
            return NONE;
        }

        /** X is kept as a node and a turn (1: X is not that); a written 'not D' is D with a turn. */
        private int atomOfRole(int role, int part, int turn) {
            if (turn == 0 && sortOf(part) == IS_NOT) {
                return atomFor(role, NONE, leftOf(part), 1);
            }
            return atomFor(role, NONE, part, turn);
        }

        private int atomFor(int role, int name, int part, int turn) {
            for (int k = 0; k < atomCount; k++) {
                if (atomRoles[k] == role && atomNames[k] == name
                        && atomParts[k] == part && atomTurns[k] == turn) {
                    return k;
                }
            }
            if (atomCount >= ATOMS) {
                return NONE;
            }
            atomRoles[atomCount] = role;
            atomNames[atomCount] = name;
            atomParts[atomCount] = part;
            atomTurns[atomCount] = turn;
            atomCount++;
            return atomCount - 1;
        }

        int sortOf(int node) {
            return node >= 0 && node < size ? sorts[node] : NONE;
        }

        int leftOf(int node) {
            return node >= 0 && node < size ? lefts[node] : NONE;
        }

        int rightOf(int node) {
            return node >= 0 && node < size ? rights[node] : NONE;
        }

        int atomOf(int node) {
            return node >= 0 && node < size ? atoms[node] : NONE;
        }

        int nodeOfName(int name) {
            return find(IS_NAME, name, 0);
        }

        int roleOfAtom(int atom) {
            return atom >= 0 && atom < atomCount ? atomRoles[atom] : NONE;
        }

        int nameOfAtom(int atom) {
            return atom >= 0 && atom < atomCount ? atomNames[atom] : NONE;
        }

        int partOfAtom(int atom) {
            return atom >= 0 && atom < atomCount ? atomParts[atom] : NONE;
        }

        boolean isTurned(int atom) {
            return atom >= 0 && atom < atomCount && atomTurns[atom] == 1;
        }
    }

    /** What a text told: its WORDS, its statements in order, and which ROLES stand under which. */
    private static final class Book {
        final Concepts concepts = new Concepts();
        int conceptCount;
        private final long[] names = new long[NAMES];
        int nameCount;
        private final long[] roles = new long[ROLES];
        int roleCount;
        private final int[] statements = new int[STATEMENTS];
        int statementCount;
        private final int[] rules = new int[RULES];
        int ruleCount;
        private final int[] questions = new int[QUESTIONS];
        int questionCount;
        /** By ROLE, as bits: those that it is UNDER. */
        private final int[] above = new int[ROLES];
        private int singles;
        private int ordered;

        void clear() {
            concepts.clear();
            conceptCount = 0;
            nameCount = 0;
            roleCount = 0;
            statementCount = 0;
            ruleCount = 0;
            questionCount = 0;
            for (int r = 0; r < ROLES; r++) {
                above[r] = 0;
            }
            singles = 0;
            ordered = 0;
        }

        int findName(long word) {
            return find(names, nameCount, word);
        }

        int findRole(long word) {
            return find(roles, roleCount, word);
        }

        private static int find(long[] words, int count, long word) {
            for (int n = 0; n < count && n < words.length; n++) {
                if (words[n] == word) {
                    return n;
                }
            }
            return NONE;
        }

        int addName(long word) {
            if (nameCount >= NAMES) {
                return NONE;
            }
            names[nameCount] = word;
            nameCount++;
            return nameCount - 1;
        }

        int addRole(long word) {
            if (roleCount >= ROLES) {
                return NONE;
            }
            roles[roleCount] = word;
            roleCount++;
            return roleCount - 1;
        }

        void addRule(int sort, int left, int right) {
            if (ruleCount < RULES) {
                rules[ruleCount] = addStatement(sort, left, right);
                ruleCount++;
            }
        }

        void addQuestion(int node) {
            if (questionCount < QUESTIONS) {
                questions[questionCount] = node;
                questionCount++;
                addStatement(QUESTION, node, 0);
            }
        }

        void addOrder(int low, int high) {
            addStatement(ROLE_ORDER, low, high);
            ordered |= 1 << low | 1 << high;
            int reached = 1 << high | rolesAbove(high);
            for (int r = 0; r < ROLES; r++) {
                if (r == low || isRoleUnder(r, low)) {
                    above[r] |= reached;
                }
            }
        }

        void addSingle(int role) {
            addStatement(SINGLE_ROLE, role, 0);
            singles |= 1 << role;
        }

        private int addStatement(int sort, int left, int right) {
            int statement = sort | left << 8 | right << 16;
            if (statementCount < STATEMENTS) {
                statements[statementCount] = statement;
                statementCount++;
            }
            return statement;
        }

        int statement(int s) {
            return s >= 0 && s < statementCount ? statements[s] : NONE;
        }

        int ruleStatement(int r) {
            return r >= 0 && r < ruleCount ? rules[r] : NONE;
        }

        static int sortOf(int statement) {
            return statement & 255;
        }

        static int leftOf(int statement) {
            return statement >> 8 & 255;
        }

        static int rightOf(int statement) {
            return statement >> 16 & 255;
        }

        int question(int q) {
            return q >= 0 && q < questionCount ? questions[q] : NONE;
        }

        long nameWord(int name) {
            return name >= 0 && name < nameCount ? names[name] : 0;
        }

        long roleWord(int role) {
            return role >= 0 && role < roleCount ? roles[role] : 0;
        }

        private int rolesAbove(int role) {
            return role >= 0 && role < ROLES ? above[role] : 0;
        }

        boolean isRoleUnder(int low, int high) {
            return (rolesAbove(low) >> high & 1) == 1;
        }

        boolean isSingle(int role) {
            return (singles >> role & 1) == 1;
        }

        boolean isOrdered(int role) {
            return (ordered >> role & 1) == 1;
        }
    }

    /** Makes a book of a text, or finds the text's first FAULT. */
    private static final class Reader {
        private final Tokens tokens;
        private Book book;
        private Concepts concepts;
        int fault;
        int faultPlace = NONE;

        Reader(byte[] text, Book into) {
            tokens = new Tokens(text);
            book = into;
            concepts = into.concepts;
        }

        boolean takeIn(int length, Book into) {
            book = into;
            concepts = into.concepts;
            book.clear();
            fault = 0;
            faultPlace = NONE;
            tokens.start(length);
            for (int n = 0; n <= length && fault == 0 && tokens.sort != THE_END; n++) {
                if (tokens.word == ASK) {
                    takeQuestion();
                } else if (tokens.word == UNDER) {
                    takeOrder();
                } else if (tokens.word == SINGLE) {
                    takeSingle();
                } else {
                    takeRule();
                }
            }
            return fault == 0;
        }

        private int fail(int number, int place) {
            fault = number;
            faultPlace = place;
            return NONE;
        }

        private int failHere(int number) {
            return fail(number, tokens.from);
        }

        private int misplaced() {
            return failHere(tokens.sort == NO_TOKEN ? 1 : 2);
        }

        private boolean takeEnd() {
            if (tokens.word != END_SIGN) {
                misplaced();
                return false;
            }
            tokens.step();
            return true;
        }

        private void takeRule() {
            if (!tokens.beginsConcept()) {
                misplaced();
                return;
            }
            if (book.ruleCount >= RULES) {
                failHere(3);
                return;
            }
            int left = takeConcept(0);
            if (left == NONE) {
                return;
            }
            if (tokens.word != LESS && tokens.word != EQUAL) {
                misplaced();
                return;
            }
            int sort = tokens.word == LESS ? LESS_RULE : EQUAL_RULE;
            tokens.step();
            int right = takeConcept(0);
            if (right != NONE && takeEnd()) {
                book.addRule(sort, left, right);
            }
        }

        private void takeQuestion() {
            if (book.questionCount >= QUESTIONS) {
                failHere(3);
                return;
            }
            tokens.step();
            int node = takeConcept(0);
            if (node != NONE && takeEnd()) {
                book.addQuestion(node);
            }
        }

        private void takeOrder() {
            tokens.step();
            int place = tokens.from;
            int low = takeRole();
            if (low == NONE) {
                return;
            }
            if (book.isSingle(low)) {
                fail(6, place);
                return;
            }
            place = tokens.from;
            int high = takeRole();
            if (high == NONE) {
                return;
            }
            if (high == low || book.isSingle(high) || book.isRoleUnder(high, low)) {
                fail(6, place);
            } else if (takeEnd()) {
                book.addOrder(low, high);
            }
        }

        private void takeSingle() {
            tokens.step();
            int place = tokens.from;
            int role = takeRole();
            if (role == NONE) {
                return;
            }
            if (book.isOrdered(role)) {
                fail(6, place);
            } else if (takeEnd()) {
                book.addSingle(role);
            }
        }

        private int takeRole() {
            if (tokens.sort != FREE_WORD) {
                return misplaced();
            }
            int role = book.findRole(tokens.word);
            if (role == NONE && book.findName(tokens.word) != NONE) {
                return failHere(4);
            }
            if (role == NONE) {
                role = book.addRole(tokens.word);
            }
            if (role == NONE) {
                return failHere(3);
            }
            tokens.step();
            return role;
        }

        /** concept = all {'or' all} */
        private int takeConcept(int depth) {
            int node = takeAll(depth);
            for (int n = 0; n <= CONCEPTS && node != NONE && tokens.word == OR; n++) {
                if (!countConcept()) {
                    return NONE;
                }
                tokens.step();
                int right = takeAll(depth);
                node = right == NONE ? NONE : concepts.make(IS_OR, node, right);
            }
            return node;
        }

        /** all = one {'and' one} */
        private int takeAll(int depth) {
            int node = takeOne(depth);
            for (int n = 0; n <= CONCEPTS && node != NONE && tokens.word == AND; n++) {
                if (!countConcept()) {
                    return NONE;
                }
                tokens.step();
                int right = takeOne(depth);
                node = right == NONE ? NONE : concepts.make(IS_AND, node, right);
            }
            return node;
        }

        /** depth: how many of not, some, every, ( it stands in. */
        private int takeOne(int depth) {
            if (!tokens.beginsConcept()) {
                return misplaced();
            }
            if (depth >= DEPTH && tokens.holdsConcept()) {
                return failHere(3);
            }
            if (tokens.word != OPEN && !countConcept()) {
                return NONE;
            }
            if (tokens.sort == FREE_WORD) {
                return takeName();
            }
            int place = tokens.from;
            long word = tokens.word;
            tokens.step();
            if (word == OPEN) {
                return takeBracketed(depth + 1);
            }
            if (word == TOP) {
                return concepts.make(IS_TOP, 0, 0);
            }
            if (word == BOTTOM) {
                return concepts.make(IS_BOTTOM, 0, 0);
            }
            if (word == NOT) {
                int part = takeOne(depth + 1);
                return part == NONE ? NONE : concepts.make(IS_NOT, part, 0);
            }
            return takeQuantified(word == SOME ? IS_SOME : IS_EVERY, place, depth + 1);
        }

        private int takeBracketed(int depth) {
            int node = takeConcept(depth);
            if (node == NONE) {
                return NONE;
            }
            if (tokens.word != CLOSE) {
                return misplaced();
            }
            tokens.step();
            return node;
        }

        private int takeQuantified(int sort, int place, int depth) {
            int role = takeRole();
            if (role == NONE) {
                return NONE;
            }
            int part = takeOne(depth);
            if (part == NONE) {
                return NONE;
            }
            int node = concepts.make(sort, part, role);
            return node == NONE ? fail(5, place) : node;
        }

        private int takeName() {
            int name = book.findName(tokens.word);
            if (name == NONE && book.findRole(tokens.word) != NONE) {
                return failHere(4);
            }
            if (name == NONE) {
                name = book.addName(tokens.word);
            }
            if (name == NONE) {
                return failHere(3);
            }
            int node = concepts.make(IS_NAME, name, 0);
            if (node == NONE) {
                return failHere(5);
            }
            tokens.step();
            return node;
        }

        /** Counts the CONCEPT whose own TOKEN is the one here. */
        private boolean countConcept() {
            if (book.conceptCount >= CONCEPTS) {
                failHere(3);
                return false;
            }
            book.conceptCount++;
            return true;
        }
    }

    /** The TYPES of a book: which are FAIR, which stay STANDING, and what goes where. */
    private static final class Kinds {
        private Book book;
        private Concepts concepts;
        private int types;
        /** For each node a row of bits: the TYPES that have it AT them. */
        private final long[] truths = new long[CONCEPTS * ROW];
        /** For each ATOM of a ROLE such a row for its X. */
        private final long[] parts = new long[ATOMS * ROW];
        /** By ROLE, as bits: the ATOMS of it; and those of it and of what it is UNDER. */
        private final int[] ownAtoms = new int[ROLES];
        private final int[] farAtoms = new int[ROLES];
        private int roleAtoms;
        final long[] fair = new long[ROW];
        final long[] standing = new long[ROW];
        private final long[] trial = new long[ROW];
        private final long[] before = new long[ROW];
        private final long[] met = new long[ROW];
        private final short[] ranks = new short[TYPES];
        int rounds;

        Kinds(Book told) {
            book = told;
            concepts = told.concepts;
        }

        void workOut(Book told) {
            book = told;
            concepts = told.concepts;
            types = 1 << Math.min(concepts.atomCount, ATOMS);
            for (int node = 0; node < concepts.size && node < CONCEPTS; node++) {
                for (int w = 0; w < ROW; w++) {
                    truths[node * ROW + w] = truthWord(node, w);
                }
            }
            for (int k = 0; k < concepts.atomCount && k < ATOMS; k++) {
                for (int w = 0; w < ROW; w++) {
                    long word = truthOf(concepts.partOfAtom(k), w);
                    parts[k * ROW + w] = concepts.isTurned(k) ? ~word : word;
                }
            }
            gatherAtoms();
            takeFair((1 << book.ruleCount) - 1, fair);
            System.arraycopy(fair, 0, standing, 0, ROW);
            for (int t = 0; t < types && t < TYPES; t++) {
                ranks[t] = (short) (has(fair, t) ? NONE : 0);
            }
            rounds = settle(standing, true);
        }

        private long truthWord(int node, int w) {
            int left = concepts.leftOf(node);
            int right = concepts.rightOf(node);
            switch (concepts.sortOf(node)) {
                case IS_TOP: return -1L;
                case IS_BOTTOM: return 0;
                case IS_NOT: return ~truthOf(left, w);
                case IS_AND: return truthOf(left, w) & truthOf(right, w);
                case IS_OR: return truthOf(left, w) | truthOf(right, w);
                case IS_EVERY: return ~bitPattern(concepts.atomOf(node), w);
                default: return bitPattern(concepts.atomOf(node), w);
            }
        }

        private long truthOf(int node, int w) {
            return node >= 0 && node < CONCEPTS && w >= 0 && w < ROW ? truths[node * ROW + w] : 0;
        }

        /** Of the w-th 64 TYPES those whose bit k is set. */
        private static long bitPattern(int k, int w) {
            switch (k) {
                case 0: return 0xAAAAAAAAAAAAAAAAL;
                case 1: return 0xCCCCCCCCCCCCCCCCL;
                case 2: return 0xF0F0F0F0F0F0F0F0L;
                case 3: return 0xFF00FF00FF00FF00L;
                case 4: return 0xFFFF0000FFFF0000L;
                case 5: return 0xFFFFFFFF00000000L;
                default: return k > 5 && (w >> (k - 6) & 1) == 1 ? -1L : 0;
            }
        }

        private void gatherAtoms() {
            roleAtoms = 0;
            for (int r = 0; r < ROLES; r++) {
                ownAtoms[r] = 0;
                farAtoms[r] = 0;
                for (int k = 0; k < concepts.atomCount; k++) {
                    int role = concepts.roleOfAtom(k);
                    if (role == r) {
                        ownAtoms[r] |= 1 << k;
                    }
                    if (role == r || role != NONE && book.isRoleUnder(r, role)) {
                        farAtoms[r] |= 1 << k;
                    }
                }
                roleAtoms |= ownAtoms[r];
            }
        }

        /** The TYPES that are FAIR to the RULES whose bits are set. */
        private void takeFair(int rules, long[] row) {
            for (int w = 0; w < ROW; w++) {
                int left = types - 64 * w;
                long word = left >= 64 ? -1L : left <= 0 ? 0 : (1L << left) - 1;
                for (int r = 0; r < book.ruleCount; r++) {
                    if ((rules >> r & 1) == 1) {
                        word &= ~broken(book.ruleStatement(r), w);
                    }
                }
                row[w] = word;
            }
        }

        private long broken(int rule, int w) {
            long left = truthOf(Book.leftOf(rule), w);
            long right = truthOf(Book.rightOf(rule), w);
            return Book.sortOf(rule) == EQUAL_RULE ? left ^ right : left & ~right;
        }

        /** Goes ROUNDS on a row of TYPES until one takes nothing: how many took something. */
        private int settle(long[] row, boolean ranked) {
            for (int round = 1; round <= TYPES; round++) {
                if (!goRound(row, ranked ? round : 0)) {
                    return round - 1;
                }
            }
            return TYPES;
        }

        /** Only the ATOMS of ROLES bear on being MET, so TYPES with the same of these are asked once. */
        private boolean goRound(long[] row, int rank) {
            System.arraycopy(row, 0, before, 0, ROW);
            boolean took = false;
            for (int t = 0; t < types && t < TYPES; t++) {
                int bearing = t & roleAtoms;
                if (bearing == t) {
                    put(met, t, isMet(t));
                }
                if (has(before, t) && !has(met, bearing)) {
                    put(row, t, false);
                    took = true;
                    if (rank > 0) {
                        ranks[t] = (short) rank;
                    }
                }
            }
            return took;
        }

        private boolean isMet(int type) {
            for (int k = 0; k < concepts.atomCount; k++) {
                boolean calls = (type >> k & 1) == 1 && concepts.roleOfAtom(k) != NONE;
                if (calls && leastMeeting(type, k, before) == NONE) {
                    return false;
                }
            }
            return true;
        }

        /** The least TYPE of a row that meets what a set ATOM of a ROLE calls for; NONE. */
        int leastMeeting(int type, int atom, long[] row) {
            int role = concepts.roleOfAtom(atom);
            if (role < 0 || role >= ROLES) {
                return NONE;
            }
            int wanted = book.isSingle(role) ? ownAtoms[role] & type : 1 << atom;
            int barred = farAtoms[role] & ~type;
            for (int w = 0; w < ROW && w < row.length; w++) {
                long word = row[w];
                for (int k = 0; k < ATOMS && word != 0; k++) {
                    if ((wanted >> k & 1) == 1) {
                        word &= parts[k * ROW + w];
                    } else if ((barred >> k & 1) == 1) {
                        word &= ~parts[k * ROW + w];
                    }
                }
                if (word != 0) {
                    return 64 * w + lowestBit(word);
                }
            }
            return NONE;
        }

        /** Whether this ATOM makes no EDGE, because a lower one of its 'single' ROLE makes it. */
        boolean isServed(int type, int atom) {
            int role = concepts.roleOfAtom(atom);
            if (role < 0 || role >= ROLES || !book.isSingle(role)) {
                return false;
            }
            return (ownAtoms[role] & type & (1 << atom) - 1) != 0;
        }

        boolean leads(int type, int role, int to) {
            if (role < 0 || role >= ROLES) {
                return false;
            }
            int barred = farAtoms[role] & ~type;
            for (int k = 0; k < ATOMS; k++) {
                if ((barred >> k & 1) == 1 && (parts[k * ROW + (to >> 6 & ROW - 1)] >> to & 1) == 1) {
                    return false;
                }
            }
            return true;
        }

        /** The least TYPE of a row AT which a concept is; NONE. */
        int leastWhere(int node, long[] row) {
            for (int w = 0; w < ROW && w < row.length; w++) {
                long word = row[w] & truthOf(node, w);
                if (word != 0) {
                    return 64 * w + lowestBit(word);
                }
            }
            return NONE;
        }

        /** The BONES of a concept, as bits; NONE if it can be. */
        int rulesThatForbid(int node) {
            if (leastWhere(node, standing) != NONE) {
                return NONE;
            }
            int kept = (1 << book.ruleCount) - 1;
            for (int r = 0; r < book.ruleCount; r++) {
                int fewer = kept & ~(1 << r);
                takeFair(fewer, trial);
                settle(trial, false);
                if (leastWhere(node, trial) == NONE) {
                    kept = fewer;
                }
            }
            return kept;
        }

        boolean implies(int low, int high) {
            for (int w = 0; w < ROW; w++) {
                if ((standing[w] & truthOf(low, w) & ~truthOf(high, w)) != 0) {
                    return false;
                }
            }
            return true;
        }

        boolean agree(int one, int other) {
            return implies(one, other) && implies(other, one);
        }

        boolean isAt(int node, int type) {
            return (truthOf(node, type >> 6) >> type & 1) == 1;
        }

        boolean isType(int type) {
            return type >= 0 && type < types;
        }

        int rankOf(int type) {
            return type >= 0 && type < TYPES ? ranks[type] : NONE;
        }

        int sizeOf(long[] row) {
            int size = 0;
            for (long word : row) {
                size += Long.bitCount(word);
            }
            return size;
        }

        private static boolean has(long[] row, int type) {
            int w = type >> 6;
            return w >= 0 && w < row.length && (row[w] >> type & 1) == 1;
        }

        private static void put(long[] row, int type, boolean set) {
            int w = type >> 6;
            if (w >= 0 && w < row.length) {
                long bit = 1L << type;
                row[w] = set ? row[w] | bit : row[w] & ~bit;
            }
        }

        private static int lowestBit(long word) {
            return Long.bitCount((word & -word) - 1);
        }
    }

    /** THE WORLD: a few TYPES that show together that a concept can be. */
    private static final class World {
        final short[] things = new short[TYPES];
        int thingCount;
        private final short[] thingOfType = new short[TYPES];
        private final int[] edges = new int[EDGES];
        int edgeCount;

        void clear() {
            thingCount = 0;
            edgeCount = 0;
            for (int t = 0; t < TYPES; t++) {
                thingOfType[t] = NONE;
            }
        }

        void build(Kinds kinds, int node) {
            clear();
            int first = kinds.leastWhere(node, kinds.standing);
            if (first == NONE) {
                return;
            }
            thingFor(first);
            for (int t = 0; t < thingCount && t < TYPES; t++) {
                addEdges(kinds, t);
            }
        }

        private void addEdges(Kinds kinds, int thing) {
            int type = things[thing];
            for (int k = 0; k < ATOMS; k++) {
                if ((type >> k & 1) == 1 && !kinds.isServed(type, k)) {
                    int to = kinds.leastMeeting(type, k, kinds.standing);
                    if (to != NONE && edgeCount < EDGES) {
                        int role = kinds.concepts.roleOfAtom(k);
                        edges[edgeCount] = thing | thingFor(to) << 10 | role << 20;
                        edgeCount++;
                    }
                }
            }
        }

        private int thingFor(int type) {
            if (type < 0 || type >= TYPES) {
                return 0;
            }
            if (thingOfType[type] == NONE && thingCount < TYPES) {
                thingOfType[type] = (short) thingCount;
                things[thingCount] = (short) type;
                thingCount++;
            }
            return thingOfType[type];
        }

        private int edgeAt(int e) {
            return e >= 0 && e < edgeCount ? edges[e] : 0;
        }

        int from(int e) {
            return edgeAt(e) & 1023;
        }

        int to(int e) {
            return edgeAt(e) >> 10 & 1023;
        }

        int role(int e) {
            return edgeAt(e) >> 20;
        }
    }

    /** THE OUT, and the printing of a book into it. */
    private static final class Printer {
        // What is to be printed behind a concept; nodes are from 0 on.
        private static final int PUT_OPEN = -1;
        private static final int PUT_CLOSE = -2;
        private static final int PUT_AND = -3;
        private static final int PUT_OR = -4;
        /** At most 99 of and, or stand in one concept; each lets four things wait, or two and brackets. */
        private static final int WAITING = 5 * CONCEPTS / 2;
        /** Each concept is printed once, with at most a sign and two brackets of its own. */
        private static final int STEPS = 4 * CONCEPTS;

        final byte[] bytes = new byte[OUT_BYTES];
        int size;
        private Book book;
        private final int[] waiting = new int[WAITING];
        private int waitingCount;

        Printer(Book told) {
            book = told;
        }

        void printBook(Book told) {
            book = told;
            size = 0;
            for (int s = 0; s < book.statementCount; s++) {
                printStatement(book.statement(s));
                putWord(END_SIGN);
                putWord('\n');
            }
        }

        private void printStatement(int statement) {
            int left = Book.leftOf(statement);
            int right = Book.rightOf(statement);
            int sort = Book.sortOf(statement);
            switch (sort) {
                case LESS_RULE:
                case EQUAL_RULE:
                    printConcept(left);
                    putWord(' ');
                    putBehind(sort == LESS_RULE ? LESS : EQUAL);
                    printConcept(right);
                    break;
                case QUESTION:
                    putBehind(ASK);
                    printConcept(left);
                    break;
                case ROLE_ORDER:
                    putBehind(UNDER);
                    putBehind(book.roleWord(left));
                    putWord(book.roleWord(right));
                    break;
                default:
                    putBehind(SINGLE);
                    putWord(book.roleWord(left));
                    break;
            }
        }

        /** Goes without recursion, because chains of and, or are as deep as they are long. */
        private void printConcept(int node) {
            waitingCount = 0;
            await(node);
            for (int n = 0; n < STEPS && waitingCount > 0; n++) {
                waitingCount--;
                int item = waiting[waitingCount];
                switch (item) {
                    case PUT_OPEN: putWord(OPEN); break;
                    case PUT_CLOSE: putWord(CLOSE); break;
                    case PUT_AND: putJoint(AND); break;
                    case PUT_OR: putJoint(OR); break;
                    default: printNode(item); break;
                }
            }
        }

        private void printNode(int node) {
            Concepts concepts = book.concepts;
            int sort = concepts.sortOf(node);
            int left = concepts.leftOf(node);
            int right = concepts.rightOf(node);
            switch (sort) {
                case IS_NAME: putWord(book.nameWord(left)); break;
                case IS_TOP: putWord(TOP); break;
                case IS_BOTTOM: putWord(BOTTOM); break;
                case IS_AND:
                case IS_OR:
                    awaitPart(right, concepts.sortOf(right) >= sort);
                    await(sort == IS_AND ? PUT_AND : PUT_OR);
                    awaitPart(left, concepts.sortOf(left) > sort);
                    break;
                case IS_NOT:
                    putBehind(NOT);
                    awaitPart(left, concepts.sortOf(left) >= IS_AND);
                    break;
                default:
                    putBehind(sort == IS_SOME ? SOME : EVERY);
                    putBehind(book.roleWord(right));
                    awaitPart(left, concepts.sortOf(left) >= IS_AND);
                    break;
            }
        }

        /** What is put last here is printed first. */
        private void awaitPart(int node, boolean inBrackets) {
            if (inBrackets) {
                await(PUT_CLOSE);
            }
            await(node);
            if (inBrackets) {
                await(PUT_OPEN);
            }
        }

        private void await(int item) {
            if (waitingCount >= 0 && waitingCount < WAITING) {
                waiting[waitingCount] = item;
                waitingCount++;
            }
        }

        private void putJoint(long word) {
            putWord(' ');
            putBehind(word);
        }

        private void putBehind(long word) {
            putWord(word);
            putWord(' ');
        }

        private void putWord(long word) {
            for (int shift = 56; shift >= 0; shift -= 8) {
                long letter = word >> shift & 255;
                if (letter != 0 && size < OUT_BYTES) {
                    bytes[size] = (byte) letter;
                    size++;
                }
            }
        }
    }
}
