/** Promises 1 to 21, call by call: a test for each sentence that names a bound or a refused call. */
public final class CallBoundsTest {
    private static final int BLANKS = 0x20202020;
    /** Numbers that no small row has, those that wrap around to a small one among them. */
    private static final int[] WRONG = {Integer.MIN_VALUE, Integer.MIN_VALUE + 1, -65536, -512, -256, -64, -32, -2, -1,
        64, 128, 256, 512, 513, 1024, 4096, 65536, 65537, 1 << 20, 1 << 30, Integer.MAX_VALUE};

    public static void main(String[] args) {
        promise1NewObject();
        promise2HighestFirst();
        promise2HowMany();
        promise2Full();
        promise3KeepsItsFirst();
        promise3Outside();
        promise4HowManyConcepts();
        promise4LessTheNumber();
        promise4WorldIsEmptyThen();
        promise5Place();
        promise5None();
        promise6Counts();
        promise6State();
        promise6Outside();
        promise7Atom();
        promise7Refused();
        promise8Rank();
        promise9Goes();
        promise10At();
        promise11Ask();
        promise12IsUnder();
        promise13Next();
        promise13NoneBetween();
        promise13None();
        promise14World();
        promise14Refused();
        promise15Thing();
        promise16Edge();
        promise17Bones();
        promise18Same();
        promise19Print();
        promise19Brackets();
        promise19Longest();
        promise20Out();
        promise21Back();
        promise21Longer();
        lastOfManyCalls();
        Due.end();
    }

    private static void promise1NewObject() {
        Due.sentence("1: No BOOK; THE TAPE, THE OUT, THE WORLD are empty");
        TypeCourt x = new TypeCourt();
        Due.is("count(0)", x.count(0), -101);
        Due.is("place()", x.place(), -1);
        Due.is("cut(1)", x.cut(1), -103);
        Due.is("count(11)", x.count(11), 0);
        Due.is("out(0)", x.out(0), -1);
        Due.is("back()", x.back(), 0);
        Due.is("print()", x.print(), -101);
        Due.is("read()", x.read(), 0);
        Due.is("count(9)", x.count(9), 0);
        Due.is("count(10)", x.count(10), 0);
        Due.is("thing(0)", x.thing(0), -102);
        Due.is("edge(0, 0)", x.edge(0, 0), -102);
        // one object has nothing of another one
        TypeCourt y = Due.told("ask a;");
        y.print();
        y.world(0);
        TypeCourt z = new TypeCourt();
        Due.is("count(0)", z.count(0), -101);
        Due.is("count(11)", z.count(11), 0);
    }

    private static void promise2HighestFirst() {
        Due.sentence("2: Twenty bytes come behind THE TAPE, each number's highest one first");
        for (int place = 0; place < 20; place++) {
            int[] n = {BLANKS, BLANKS, BLANKS, BLANKS, BLANKS};
            int shift = 24 - place % 4 * 8;
            n[place / 4] = n[place / 4] & ~(255 << shift) | 0x80 << shift;
            TypeCourt x = new TypeCourt();
            Due.is("feed", x.feed(n[0], n[1], n[2], n[3], n[4]), 20);
            Due.is("read()", x.read(), -1);
            Due.is("place() of byte " + place, x.place(), place);
            Due.is("feed", x.feed(BLANKS, BLANKS, BLANKS, BLANKS, BLANKS), 20);
            Due.is("feed", x.feed(n[0], n[1], n[2], n[3], n[4]), 40);
            Due.is("read()", x.read(), -1);
            Due.is("place() of byte " + (20 + place), x.place(), 20 + place);
        }
        TypeCourt x = new TypeCourt();
        // "ask abcd", "efgh;ask", " b;."
        x.feed(0x61736B20, 0x61626364, 0x65666768, 0x3B61736B, 0x20623B0A);
        Due.is("read()", x.read(), 2);
        x.print();
        Due.text("out", Due.out(x), "ask abcdefgh;\nask b;\n");
        // the highest bit of a number is a byte's, not a sign
        x.feed(BLANKS, BLANKS, BLANKS, BLANKS, 0x202020FF);
        Due.is("read()", x.read(), -1);
        Due.is("place()", x.place(), 19);
        x.feed(BLANKS, -1, BLANKS, BLANKS, BLANKS);
        Due.is("read()", x.read(), -1);
        Due.is("place()", x.place(), 4);
        x.feed(Integer.MIN_VALUE, 0, 0, 0, 0);
        Due.is("read()", x.read(), -1);
        Due.is("place()", x.place(), 0);
    }

    private static void promise2HowMany() {
        Due.sentence("2: how many it has");
        TypeCourt x = new TypeCourt();
        for (int n = 1; n <= 100; n++) {
            Due.is("feed " + n, x.feed(BLANKS, BLANKS, BLANKS, BLANKS, BLANKS), 20 * n);
        }
        x.cut(7);
        Due.is("feed behind seven bytes", x.feed(0, 0, 0, 0, 0), 27);
        x.cut(0);
        Due.is("feed behind none", x.feed(0, 0, 0, 0, 0), 20);
    }

    private static void promise2Full() {
        Due.sentence("2: FULL");
        for (int size = 1975; size <= 2000; size++) {
            TypeCourt x = new TypeCourt();
            for (int n = 0; n < 100; n++) {
                x.feed(BLANKS, BLANKS, BLANKS, BLANKS, BLANKS);
            }
            x.cut(size);
            Due.is("feed at " + size, x.feed(0, 0, 0, 0, 0), size <= 1980 ? size + 20 : -104);
            // a refused one left no byte
            Due.is("cut(" + (size + 1) + ")", x.cut(size + 1), size <= 1980 ? 19 : -103);
            x.cut(size);
            Due.is("read()", x.read(), 0);
        }
    }

    private static void promise3KeepsItsFirst() {
        Due.sentence("3: THE TAPE keeps its first n bytes: how many went");
        String text = "ask abcdefgh;";
        for (int n = 0; n <= text.length(); n++) {
            TypeCourt x = Due.fed(text);
            Due.is("cut(" + n + ")", x.cut(n), text.length() - n);
            Due.is("cut(" + n + ") again", x.cut(n), 0);
            Due.is("cut(" + (n + 1) + ")", x.cut(n + 1), -103);
            Due.feed(x, ";");
            boolean whole = n > 4;
            Due.is("read()", x.read(), n == text.length() || !whole ? -2 : 1);
            Due.is("place()", x.place(), n == text.length() || !whole ? n : -1);
        }
    }

    private static void promise3Outside() {
        Due.sentence("3: OUTSIDE: n is not 0 .. as many as it has");
        TypeCourt x = new TypeCourt();
        Due.is("cut(0) of none", x.cut(0), 0);
        Due.is("cut(1) of none", x.cut(1), -103);
        Due.is("cut(-1) of none", x.cut(-1), -103);
        Due.feed(x, "ask a;");
        for (int n : WRONG) {
            Due.is("cut(" + n + ")", x.cut(n), -103);
        }
        Due.is("cut(7)", x.cut(7), -103);
        Due.is("cut(6)", x.cut(6), 0);
        Due.is("read()", x.read(), 1);
    }

    private static void promise4HowManyConcepts() {
        Due.sentence("4: THE TAPE becomes THE BOOK, and all of part 2 is worked out: how many CONCEPTS");
        Due.is("read() of an empty TAPE", new TypeCourt().read(), 0);
        Due.is("read() of no CONCEPT", Due.fed("single r;").read(), 0);
        Due.is("read() of one", Due.fed("ask top;").read(), 1);
        Due.is("read() of 200", Due.fed("ask a" + Due.times(" or a", 99) + "; ask a;").read(), 200);
        TypeCourt x = Due.told("b < bottom; a < some r b;");
        Due.is("count(8)", x.count(8), 1);
        Due.feed(x, "ask some r a;");
        Due.is("read()", x.read(), 2);
        Due.is("count(6)", x.count(6), 4);
        Due.is("count(7)", x.count(7), 4);
        Due.is("count(8)", x.count(8), 0);
        Due.is("rank(3)", x.rank(3), -1);
    }

    private static void promise4LessTheNumber() {
        Due.sentence("4: 0 less the number of its FAULT");
        Due.is("FAULT 1", Due.fed("#").read(), -1);
        Due.is("FAULT 2", Due.fed(";").read(), -2);
        Due.is("FAULT 3", Due.fed(Due.times("(", 13)).read(), -3);
        Due.is("FAULT 4", Due.fed("ask some r r;").read(), -4);
        Due.is("FAULT 5", Due.fed("ask a or b or c or d or e or some r a or some r b or some r c or some r d or some r e;").read(), -5);
        Due.is("FAULT 6", Due.fed("under r r;").read(), -6);
    }

    private static void promise4WorldIsEmptyThen() {
        Due.sentence("4: (THE WORLD is empty then)");
        String text = "ask some r a;";
        TypeCourt x = Due.told(text);
        Due.is("world(0)", x.world(0), 2);
        Due.feed(x, "ask #");
        x.read();
        Due.is("count(9) after a FAULT", x.count(9), 2);
        Due.is("count(10) after a FAULT", x.count(10), 1);
        Due.is("thing(1) after a FAULT", x.thing(1), 1);
        Due.is("edge(0, 1) after a FAULT", x.edge(0, 1), 1);
        Due.feed(x, text);
        Due.is("read()", x.read(), 2);
        Due.is("count(9)", x.count(9), 0);
        Due.is("count(10)", x.count(10), 0);
        Due.is("thing(0)", x.thing(0), -102);
        Due.is("edge(0, 0)", x.edge(0, 0), -102);
    }

    private static void promise5Place() {
        Due.sentence("5: The byte of the FAULT of the latest read()");
        TypeCourt x = new TypeCourt();
        Due.feed(x, "ask a; #");
        x.read();
        Due.is("place()", x.place(), 7);
        Due.is("place() again", x.place(), 7);
        Due.feed(x, "#");
        Due.is("place() after feed", x.place(), 7);
        x.cut(0);
        x.cut(5);
        x.feed(0, 0, 0, 0, 0);
        x.cut(1);
        Due.is("place() after cut", x.place(), 7);
        x.back();
        Due.is("place() after back", x.place(), 7);
        Due.feed(x, "ask");
        x.read();
        Due.is("place() of the next FAULT", x.place(), 3);
    }

    private static void promise5None() {
        Due.sentence("5: NONE: it had none, or there was no read()");
        TypeCourt x = new TypeCourt();
        Due.is("place() of a new one", x.place(), -1);
        Due.feed(x, "#");
        Due.is("place() ahead of read()", x.place(), -1);
        x.read();
        Due.is("place() at byte 0", x.place(), 0);
        x.read();
        Due.is("place() of no FAULT", x.place(), -1);
    }

    private static void promise6Counts() {
        Due.sentence("6: Of THE BOOK: 0 NAMES .. 8 ROUNDS that took something; 9 THINGS of THE WORLD, 10 its EDGES, 11 bytes of THE OUT");
        TypeCourt x = Due.told("b < bottom; a < some r b; c < some r a; ask a; ask c; ask some r some s top; single s;"
            + "top < some s top;");
        int[] due = {3, 2, 4, 3, 16, 7, 18, 1, 2, 0, 0, 0};
        // FAIR are those with SOME s top: of b, a and SOME r b, c and SOME r a nine of 32, and SOME r some s top free
        for (int what = 0; what < 12; what++) {
            Due.is("count(" + what + ")", x.count(what), what == 7 ? x.count(7) : due[what]);
        }
        Due.is("count(7)", x.count(7), 2);
        TypeCourt y = Due.told("ask some r a;");
        y.world(0);
        y.print();
        Due.is("count(9)", y.count(9), 2);
        Due.is("count(10)", y.count(10), 1);
        Due.is("count(11)", y.count(11), 14);
        TypeCourt z = Due.told("");
        int[] none = {0, 0, 0, 0, 0, 0, 1, 1, 0, 0, 0, 0};
        for (int what = 0; what < 12; what++) {
            Due.is("count(" + what + ") of an empty book", z.count(what), none[what]);
        }
    }

    private static void promise6State() {
        Due.sentence("6: STATE (not of 11)");
        TypeCourt x = Due.fed("#");
        for (int read = 0; read < 2; read++) {
            for (int what = 0; what < 11; what++) {
                Due.is("count(" + what + ")", x.count(what), -101);
            }
            Due.is("count(11)", x.count(11), 0);
            Due.is("count(12)", x.count(12), -101);
            Due.is("count(-1)", x.count(-1), -101);
            x.read();
        }
    }

    private static void promise6Outside() {
        Due.sentence("6: OUTSIDE");
        TypeCourt x = Due.told("");
        Due.is("count(-1)", x.count(-1), -103);
        Due.is("count(12)", x.count(12), -103);
        for (int n : WRONG) {
            Due.is("count(" + n + ")", x.count(n), -103);
            Due.is("count(" + (n + 11) + ")", x.count(n + 11), n < 0 && n + 11 >= 0 && n + 11 < 12 ? x.count(n + 11) : -103);
        }
    }

    private static void promise7Atom() {
        Due.sentence("7: ATOM k: what = 0 its ROLE (NONE: it is a NAME's), 1 the NAME (NONE: it is a ROLE's)");
        TypeCourt x = Due.told("under t s; ask e and d and c and b and a; ask some r top; ask every s a; ask some t a; ask some s b;");
        int[] roles = {-1, -1, -1, -1, -1, 2, 1, 0, 1};
        for (int k = 0; k < 9; k++) {
            Due.is("atom(" + k + ", 0)", x.atom(k, 0), roles[k]);
            Due.is("atom(" + k + ", 1)", x.atom(k, 1), k < 5 ? k : -1);
        }
    }

    private static void promise7Refused() {
        Due.sentence("7: STATE, UNKNOWN (no such ATOM), OUTSIDE");
        Due.is("atom(0, 0)", new TypeCourt().atom(0, 0), -101);
        TypeCourt none = Due.told("");
        Due.is("atom(0, 0) of none", none.atom(0, 0), -102);
        TypeCourt x = Due.told("ask some r a;");
        Due.is("atom(1, 1)", x.atom(1, 1), -1);
        Due.is("atom(2, 0)", x.atom(2, 0), -102);
        Due.is("atom(2, 2)", x.atom(2, 2), -102);
        Due.is("atom(1, 2)", x.atom(1, 2), -103);
        Due.is("atom(0, -1)", x.atom(0, -1), -103);
        for (int n : WRONG) {
            Due.is("atom(" + n + ", 0)", x.atom(n, 0), -102);
            Due.is("atom(" + n + ", 2)", x.atom(n, 2), -102);
            Due.is("atom(1, " + n + ")", x.atom(1, n), -103);
        }
    }

    private static void promise8Rank() {
        Due.sentence("8: RANK of a TYPE. STATE, UNKNOWN");
        Due.is("rank(0)", new TypeCourt().rank(0), -101);
        TypeCourt x = Due.told("a < bottom; ask some r a;");
        int[] due = {-1, 0, 1, 0, -102};
        for (int t = 0; t < 5; t++) {
            Due.is("rank(" + t + ")", x.rank(t), due[t]);
        }
        for (int n : WRONG) {
            Due.is("rank(" + n + ")", x.rank(n), -102);
        }
        // fewer TYPES than the book before had
        TypeCourt y = Due.told("ask a and b and c and d and e;");
        Due.is("rank(31)", y.rank(31), -1);
        Due.feed(y, "a = bottom;");
        y.read();
        Due.is("rank(1)", y.rank(1), 0);
        Due.is("rank(2)", y.rank(2), -102);
        Due.is("rank(31)", y.rank(31), -102);
    }

    private static void promise9Goes() {
        Due.sentence("9: Whether a TYPE GOES to another one by a ROLE: 1, 0. STATE, UNKNOWN (a TYPE), OUTSIDE (no such ROLE)");
        Due.is("goes(0, 0, 0)", new TypeCourt().goes(0, 0, 0), -101);
        TypeCourt x = Due.told("single s; ask some r a;");
        for (int n = 0; n < 16; n++) {
            boolean goes = n >= 8 || n % 2 == 0;
            Due.is("goes(" + n / 4 + ", 1, " + n % 4 + ")", x.goes(n / 4, 1, n % 4), goes ? 1 : 0);
            Due.is("goes(" + n / 4 + ", 0, " + n % 4 + ")", x.goes(n / 4, 0, n % 4), 1);
        }
        Due.is("goes(4, 0, 0)", x.goes(4, 0, 0), -102);
        Due.is("goes(0, 0, 4)", x.goes(0, 0, 4), -102);
        Due.is("goes(0, 2, 0)", x.goes(0, 2, 0), -103);
        Due.is("goes(4, 2, 0)", x.goes(4, 2, 0), -102);
        Due.is("goes(0, 2, 4)", x.goes(0, 2, 4), -102);
        for (int n : WRONG) {
            Due.is("goes(" + n + ", 0, 0)", x.goes(n, 0, 0), -102);
            Due.is("goes(0, 0, " + n + ")", x.goes(0, 0, n), -102);
            Due.is("goes(0, " + n + ", 0)", x.goes(0, n, 0), -103);
            Due.is("goes(" + n + ", " + n + ", 0)", x.goes(n, n, 0), -102);
            Due.is("goes(0, " + n + ", " + n + ")", x.goes(0, n, n), -102);
        }
        Due.is("goes(0, 0, 0) of no ROLE", Due.told("ask a;").goes(0, 0, 0), -103);
        Due.is("goes(1, 0, 0) of no ATOM", Due.told("single r;").goes(1, 0, 0), -102);
        Due.is("goes(0, 2, 0) of three ROLES", Due.told("single r; single s; single t;").goes(0, 2, 0), 1);
        Due.is("goes(0, 3, 0) of three ROLES", Due.told("single r; single s; single t;").goes(0, 3, 0), -103);
    }

    private static void promise10At() {
        Due.sentence("10: Whether QUESTION q is AT a TYPE: 1, 0. STATE, UNKNOWN");
        Due.is("at(0, 0)", new TypeCourt().at(0, 0), -101);
        TypeCourt x = Due.told("ask a; ask not a; a < bottom;");
        Due.is("at(0, 0)", x.at(0, 0), 0);
        Due.is("at(0, 1)", x.at(0, 1), 1);
        Due.is("at(1, 0)", x.at(1, 0), 1);
        Due.is("at(1, 1)", x.at(1, 1), 0);
        Due.is("at(2, 0)", x.at(2, 0), -102);
        Due.is("at(0, 2)", x.at(0, 2), -102);
        for (int n : WRONG) {
            Due.is("at(" + n + ", 0)", x.at(n, 0), -102);
            Due.is("at(0, " + n + ")", x.at(0, n), -102);
        }
        Due.is("at(0, 0) of no QUESTION", Due.told("a < a;").at(0, 0), -102);
        Due.is("at(11, 0) of twelve", Due.told(Due.times("ask bottom;", 11) + "ask top;").at(11, 0), 1);
        Due.is("at(12, 0) of twelve", Due.told(Due.times("ask top;", 12)).at(12, 0), -102);
    }

    private static void promise11Ask() {
        Due.sentence("11: Whether QUESTION q CAN BE: 1, 0. STATE, UNKNOWN");
        Due.is("ask(0)", new TypeCourt().ask(0), -101);
        TypeCourt x = Due.told("a < bottom; ask a; ask not a;");
        Due.is("ask(0)", x.ask(0), 0);
        Due.is("ask(1)", x.ask(1), 1);
        Due.is("ask(2)", x.ask(2), -102);
        for (int n : WRONG) {
            Due.is("ask(" + n + ")", x.ask(n), -102);
        }
        Due.is("ask(0) of no QUESTION", Due.told("a < a;").ask(0), -102);
        Due.is("ask(11) of twelve", Due.told(Due.times("ask bottom;", 11) + "ask top;").ask(11), 1);
        Due.is("ask(12) of twelve", Due.told(Due.times("ask top;", 12)).ask(12), -102);
    }

    private static void promise12IsUnder() {
        Due.sentence("12: Whether NAME a is UNDER NAME b: 1, 0. STATE, UNKNOWN");
        Due.is("isUnder(0, 0)", new TypeCourt().isUnder(0, 0), -101);
        TypeCourt x = Due.told("a < b; b < c; c < d; d < e;");
        for (int a = 0; a < 5; a++) {
            for (int b = 0; b < 5; b++) {
                Due.is("isUnder(" + a + ", " + b + ")", x.isUnder(a, b), a <= b ? 1 : 0);
            }
        }
        Due.is("isUnder(5, 0)", x.isUnder(5, 0), -102);
        Due.is("isUnder(0, 5)", x.isUnder(0, 5), -102);
        for (int n : WRONG) {
            Due.is("isUnder(" + n + ", 0)", x.isUnder(n, 0), -102);
            Due.is("isUnder(0, " + n + ")", x.isUnder(0, n), -102);
        }
        Due.is("isUnder(0, 0) of no NAME", Due.told("ask top;").isUnder(0, 0), -102);
    }

    private static void nexts(String text, int[]... due) {
        TypeCourt x = Due.told(text);
        for (int a = 0; a < due.length; a++) {
            for (int i = 0; i < 6; i++) {
                Due.is("next(" + a + ", " + i + ") of " + text, x.next(a, i), i < due[a].length ? due[a][i] : -1);
            }
        }
    }

    private static void promise13Next() {
        Due.sentence("13: The i-th NAME, by numbers, that is next above NAME a: a is UNDER it, it not UNDER a");
        nexts("ask e; ask d; ask c; ask b; a < b and c and d and e;", new int[0], new int[0], new int[0], new int[0],
            new int[] {0, 1, 2, 3});
        nexts("a < b and c and d and e;", new int[] {1, 2, 3, 4}, new int[0], new int[0], new int[0], new int[0]);
        nexts("a = b; b = c;", new int[0], new int[0], new int[0]);
        nexts("ask a and b;", new int[0], new int[0]);
        nexts("a = bottom; b = bottom; ask c;", new int[] {2}, new int[] {2}, new int[0]);
        nexts("top < bottom; ask a and b;", new int[0], new int[0]);
    }

    private static void promise13NoneBetween() {
        Due.sentence("13: and none lies between: a UNDER that, that UNDER it, neither the other way");
        nexts("a < b; b < c; a < c;", new int[] {1}, new int[] {2}, new int[0]);
        nexts("c < b; b < a; c < a;", new int[] {1}, new int[] {2}, new int[0]);
        nexts("ask b; a < b; b < c; a < c;", new int[] {2}, new int[] {0}, new int[0]);
        nexts("ask d; ask c; a < b; b < c; a < d; d < c; e < a;", new int[] {1}, new int[0], new int[] {0, 3}, new int[] {1},
            new int[] {2});
        nexts("a < b; a < c; b < d; c < d; a < d; d < e;", new int[] {1, 2}, new int[] {3}, new int[] {3}, new int[] {4}, new int[0]);
        // what is the same as one end lies not between
        nexts("a = b; b < c; c = d;", new int[] {2, 3}, new int[] {2, 3}, new int[0], new int[0]);
        nexts("a < b; b = c; c < d; ask e;", new int[] {1, 2}, new int[] {3}, new int[] {3}, new int[0], new int[0]);
    }

    private static void promise13None() {
        Due.sentence("13: NONE. STATE, UNKNOWN");
        Due.is("next(0, 0)", new TypeCourt().next(0, 0), -101);
        Due.is("next(-1, -1)", new TypeCourt().next(-1, -1), -101);
        TypeCourt x = Due.told("a < b;");
        Due.is("next(0, 0)", x.next(0, 0), 1);
        Due.is("next(0, 1)", x.next(0, 1), -1);
        Due.is("next(1, 0)", x.next(1, 0), -1);
        Due.is("next(2, 0)", x.next(2, 0), -102);
        for (int n : WRONG) {
            Due.is("next(0, " + n + ")", x.next(0, n), -1);
            Due.is("next(" + n + ", 0)", x.next(n, 0), -102);
            Due.is("next(2, " + n + ")", x.next(2, n), -102);
        }
        Due.is("next(0, 0) of no NAME", Due.told("ask top;").next(0, 0), -102);
    }

    private static void promise14World() {
        Due.sentence("14: THE WORLD becomes one for QUESTION q: how many THINGS; 0 if it CANNOT BE (THE WORLD is empty then)");
        TypeCourt x = Due.told("ask some r a; ask bottom; ask top; ask some r a and a;");
        for (int n = 0; n < 2; n++) {
            Due.is("world(0)", x.world(0), 2);
            Due.is("count(9)", x.count(9), 2);
            Due.is("count(10)", x.count(10), 1);
            Due.is("world(2)", x.world(2), 1);
            Due.is("count(10)", x.count(10), 0);
            Due.is("thing(1)", x.thing(1), -102);
            Due.is("edge(0, 0)", x.edge(0, 0), -102);
            Due.is("world(3)", x.world(3), 2);
            Due.is("thing(0)", x.thing(0), 3);
            Due.is("thing(1)", x.thing(1), 1);
            Due.is("world(1)", x.world(1), 0);
            Due.is("count(9)", x.count(9), 0);
            Due.is("count(10)", x.count(10), 0);
            Due.is("thing(0)", x.thing(0), -102);
        }
    }

    private static void promise14Refused() {
        Due.sentence("14: STATE, UNKNOWN");
        Due.is("world(0)", new TypeCourt().world(0), -101);
        TypeCourt x = Due.told("ask some r a;");
        x.world(0);
        Due.is("world(1)", x.world(1), -102);
        for (int n : WRONG) {
            Due.is("world(" + n + ")", x.world(n), -102);
        }
        Due.is("count(9)", x.count(9), 2);
        Due.is("count(10)", x.count(10), 1);
        Due.is("thing(1)", x.thing(1), 1);
        Due.is("world(0) of no QUESTION", Due.told("a < a;").world(0), -102);
        Due.is("world(11) of twelve", Due.told(Due.times("ask bottom;", 11) + "ask top;").world(11), 1);
    }

    private static void promise15Thing() {
        Due.sentence("15: The TYPE of THING t. STATE, UNKNOWN");
        Due.is("thing(0)", new TypeCourt().thing(0), -101);
        TypeCourt x = Due.told("ask some r a;");
        Due.is("thing(0) ahead of world", x.thing(0), -102);
        x.world(0);
        Due.is("thing(0)", x.thing(0), 2);
        Due.is("thing(1)", x.thing(1), 1);
        Due.is("thing(2)", x.thing(2), -102);
        for (int n : WRONG) {
            Due.is("thing(" + n + ")", x.thing(n), -102);
        }
        // a TYPE over 255
        TypeCourt y = Due.told("ask a and b and c and d and e and some r a and some r b and some r c and some r not a;");
        Due.is("world(0)", y.world(0), 5);
        Due.is("thing(0)", y.thing(0), 511);
    }

    private static void promise16Edge() {
        Due.sentence("16: EDGE e of THE WORLD, in the order in which they came: what = 0 from, 1 to (THINGS), 2 ROLE."
            + " STATE, UNKNOWN (no such EDGE), OUTSIDE");
        Due.is("edge(0, 0)", new TypeCourt().edge(0, 0), -101);
        TypeCourt x = Due.told("single t; ask some r b and some s a; a < some t b;");
        Due.is("edge(0, 0) ahead of world", x.edge(0, 0), -102);
        Due.is("edge(0, 3) ahead of world", x.edge(0, 3), -102);
        // ATOMS b, SOME r b, a, SOME s a, SOME t b
        Due.is("world(0)", x.world(0), 3);
        int[][] due = {{0, 1, 1}, {0, 2, 2}, {2, 1, 0}};
        for (int e = 0; e < 3; e++) {
            for (int what = 0; what < 3; what++) {
                Due.is("edge(" + e + ", " + what + ")", x.edge(e, what), due[e][what]);
            }
            Due.is("edge(" + e + ", 3)", x.edge(e, 3), -103);
        }
        Due.is("edge(3, 0)", x.edge(3, 0), -102);
        Due.is("edge(3, 3)", x.edge(3, 3), -102);
        for (int n : WRONG) {
            Due.is("edge(" + n + ", 0)", x.edge(n, 0), -102);
            Due.is("edge(" + n + ", 3)", x.edge(n, 3), -102);
            Due.is("edge(0, " + n + ")", x.edge(0, n), -103);
        }
    }

    private static void promise17Bones() {
        Due.sentence("17: BONES of QUESTION q, as bits (bit i for RULE i); NONE if it CAN BE. STATE, UNKNOWN");
        Due.is("bones(0)", new TypeCourt().bones(0), -101);
        TypeCourt x = Due.told("a < a; ask a; ask bottom;" + Due.times("b < b;", 10) + "b < bottom; ask b; ask a and b;");
        int[] due = {-1, 0, 2048, 2048, -102};
        for (int q = 0; q < 5; q++) {
            Due.is("bones(" + q + ")", x.bones(q), due[q]);
        }
        for (int n : WRONG) {
            Due.is("bones(" + n + ")", x.bones(n), -102);
        }
        Due.is("bones(0) of no QUESTION", Due.told("a < bottom;").bones(0), -102);
    }

    private static void promise18Same() {
        Due.sentence("18: Whether QUESTIONS p and q have the same truth AT all STANDING TYPES: 1, 0. STATE, UNKNOWN");
        Due.is("same(0, 0)", new TypeCourt().same(0, 0), -101);
        TypeCourt x = Due.told("b < bottom; a < some r b; ask a; ask bottom; ask some r b; ask top; ask not a; ask c; ask c and not b; ask not c;");
        int[] kinds = {0, 0, 0, 1, 1, 2, 2, 3};
        for (int p = 0; p < 8; p++) {
            for (int q = 0; q < 8; q++) {
                Due.is("same(" + p + ", " + q + ")", x.same(p, q), kinds[p] == kinds[q] ? 1 : 0);
            }
        }
        Due.is("same(8, 0)", x.same(8, 0), -102);
        Due.is("same(0, 8)", x.same(0, 8), -102);
        for (int n : WRONG) {
            Due.is("same(" + n + ", 0)", x.same(n, 0), -102);
            Due.is("same(0, " + n + ")", x.same(0, n), -102);
            Due.is("same(" + n + ", " + n + ")", x.same(n, n), -102);
        }
        TypeCourt none = Due.told("top < bottom; ask top; ask bottom;");
        Due.is("same(0, 1) of no STANDING one", none.same(0, 1), 1);
    }

    private static void printed(String text, String due) {
        TypeCourt x = Due.told(text);
        int concepts = x.count(4);
        Due.is("print() of " + text, x.print(), due.length());
        Due.text("out of " + text, Due.out(x), due);
        Due.is("back()", x.back(), due.length());
        Due.is("read() of what was printed", x.read(), concepts);
        Due.is("print() again", x.print(), due.length());
        Due.text("out again", Due.out(x), due);
    }

    private static void promise19Print() {
        Due.sentence("19: THE OUT becomes THE BOOK, PRINTED: each statement, in order, on a line of its own with a byte 10 behind it."
            + " How many bytes. STATE");
        Due.is("print()", new TypeCourt().print(), -101);
        printed("", "");
        printed("single r;", "single r;\n");
        printed("ask a;single r;b<a;under s t;a=b;ask not a;", "ask a;\nsingle r;\nb < a;\nunder s t;\na = b;\nask not a;\n");
        printed("single r;single r;ask a;ask a;", "single r;\nsingle r;\nask a;\nask a;\n");
        TypeCourt x = Due.told("ask a and b and c;");
        x.print();
        Due.feed(x, "ask a;");
        x.read();
        Due.is("THE OUT stays until print()", x.count(11), 19);
        Due.is("print() of a shorter one", x.print(), 7);
        Due.is("count(11)", x.count(11), 7);
        Due.is("out(7)", x.out(7), -1);
        Due.is("read() of nothing", x.read(), 0);
        Due.is("print() of an empty book", x.print(), 0);
        Due.is("out(0)", x.out(0), -1);
    }

    private static void promise19Brackets() {
        Due.sentence("19: ( ) just where they are needed, so that it is read so again"
            + " (right parts of and, or that are of the same sign in brackets)");
        String[] parts = {"a", "top", "not a", "some r a", "every r a", "a and b", "a or b"};
        int[] strength = {2, 2, 2, 2, 2, 1, 0};
        for (int l = 0; l < parts.length; l++) {
            String left = parts[l];
            for (String holder : new String[] {"not ", "some r ", "every r "}) {
                String due = holder + (strength[l] < 2 ? "(" + left + ")" : left);
                printed("ask " + holder + "(" + left + ");", "ask " + due + ";\n");
            }
            for (int r = 0; r < parts.length; r++) {
                String right = parts[r];
                String and = (strength[l] < 1 ? "(" + left + ")" : left) + " and " + (strength[r] < 2 ? "(" + right + ")" : right);
                String or = left + " or " + (strength[r] < 1 ? "(" + right + ")" : right);
                printed("ask ((" + left + ")and(" + right + "));", "ask " + and + ";\n");
                printed("ask ((" + left + ")or(" + right + "));", "ask " + or + ";\n");
                printed("(" + left + ")<(" + right + ");", left + " < " + right + ";\n");
                printed("((" + left + "))=((" + right + "));", left + " = " + right + ";\n");
            }
        }
        printed("ask not(not(not(a and(b and c))));", "ask not not not (a and (b and c));\n");
        printed("ask" + Due.times("(", 12) + "a" + Due.times(")", 12) + ";", "ask a;\n");
        printed("ask" + Due.times("(a and", 12) + " a" + Due.times(")", 12) + ";",
            "ask a and " + Due.times("(a and ", 11) + "a" + Due.times(")", 11) + ";\n");
        printed("ask" + Due.times("(", 12) + "a" + Due.times(" and a)", 12) + ";", "ask a" + Due.times(" and a", 12) + ";\n");
        printed("ask" + Due.times("(a or", 6) + " a" + Due.times(")and a", 6) + ";",
            "ask " + Due.times("(a or ", 6) + "a" + Due.times(") and a", 6) + ";\n");
    }

    private static void promise19Longest() {
        Due.sentence("19: How many bytes (of a long book)");
        String rule = "(a)<(a);";
        TypeCourt x = Due.told(Due.times(rule, 12) + Due.times("single r;", 200));
        Due.is("print()", x.print(), 12 * 7 + 2000);
        Due.is("out(83)", x.out(83), 10);
        Due.is("out(84)", x.out(84), 's');
        // brackets that need a blank on both sides
        String text = "ask(a or a)" + Due.times("and(a or a)", 48) + ";";
        printed(text, "ask (a or a)" + Due.times(" and (a or a)", 48) + ";\n");
        TypeCourt y = Due.told(text + Due.times("under r s;", 145) + "a<b;");
        Due.is("print()", y.print(), 12 + 48 * 13 + 2 + 145 * 11 + 7);
        Due.is("the last byte", y.out(y.count(11) - 1), 10);
        Due.is("the one ahead of it", y.out(y.count(11) - 2), ';');
    }

    private static void promise20Out() {
        Due.sentence("20: Byte i of THE OUT; NONE: there is none such");
        Due.is("out(0) of a new one", new TypeCourt().out(0), -1);
        TypeCourt x = Due.told("ask a;");
        Due.is("out(0) ahead of print()", x.out(0), -1);
        x.print();
        String due = "ask a;\n";
        for (int i = 0; i < 7; i++) {
            Due.is("out(" + i + ")", x.out(i), due.charAt(i));
        }
        Due.is("out(7)", x.out(7), -1);
        for (int n : WRONG) {
            Due.is("out(" + n + ")", x.out(n), -1);
        }
        TypeCourt y = Due.told(Due.times("under r s;", 200));
        y.print();
        Due.is("out(2199)", y.out(2199), 10);
        Due.is("out(2200)", y.out(2200), -1);
    }

    private static void promise21Back() {
        Due.sentence("21: THE OUT becomes THE TAPE: how many");
        TypeCourt x = new TypeCourt();
        Due.feed(x, "ask a;");
        Due.is("back() of an empty OUT", x.back(), 0);
        Due.is("THE TAPE is THE OUT", x.cut(1), -103);
        Due.feed(x, "ask b and c;");
        x.read();
        x.print();
        Due.feed(x, "# more than THE OUT has, and gone");
        Due.is("back()", x.back(), 13);
        Due.is("cut(14)", x.cut(14), -103);
        Due.is("feed behind it", x.feed(0x61736B20, 0x613B2020, BLANKS, BLANKS, BLANKS), 33);
        Due.is("read()", x.read(), 4);
        Due.is("print()", x.print(), 20);
        Due.text("out", Due.out(x), "ask b and c;\nask a;\n");
        Due.is("THE BOOK is as it was", x.count(3), 2);
    }

    private static void promise21Longer() {
        Due.sentence("21: (its first 2000 bytes, if it is longer)");
        String[] last = {"ask a and bbbbbbb;", "ask a and bbbbbbbb;", "ask aa and bbbbbbbb;", "ask aaa and bbbbbbbb;"};
        for (int n = 0; n < 4; n++) {
            TypeCourt x = Due.told(Due.times("single r;", 198) + last[n]);
            Due.is("print()", x.print(), 1999 + n);
            Due.is("back()", x.back(), Math.min(2000, 1999 + n));
            // of 2001 bytes only the blank at the end is gone, of 2002 the ; too
            Due.is("read()", x.read(), n < 3 ? 3 : -2);
            Due.is("place()", x.place(), n < 3 ? -1 : 2000);
        }
        for (int n = 199; n <= 222; n++) {
            TypeCourt x = Due.told(Due.times("single r;", n));
            Due.is("print()", x.print(), 10 * n);
            Due.is("back()", x.back(), Math.min(2000, 10 * n));
            Due.is("cut(2000)", x.cut(2000), n < 200 ? -103 : 0);
            Due.is("cut(2001)", x.cut(2001), -103);
            Due.is("read()", x.read(), 0);
            Due.is("print()", x.print(), Math.min(2000, 10 * n));
        }
        TypeCourt y = Due.told(Due.times("under r s;", 182));
        Due.is("print()", y.print(), 2002);
        Due.is("back()", y.back(), 2000);
        Due.is("read() of one that is cut", y.read(), -2);
        Due.is("place()", y.place(), 2000);
        Due.is("THE OUT is as it was", y.count(11), 2002);
    }

    private static void lastOfManyCalls() {
        Due.sentence("An object is used for at most 512 calls after it has been made");
        TypeCourt x = new TypeCourt();
        for (int n = 0; n < 64; n++) {
            // eight calls
            Due.is("feed", x.feed(0x61203C20, 0x736F6D65, 0x20722062, 0x3B61736B, 0x20613B0A), 20);
            Due.is("read()", x.read(), 4);
            Due.is("world(0)", x.world(0), 2);
            Due.is("bones(0)", x.bones(0), -1);
            Due.is("print()", x.print(), 21);
            Due.is("back()", x.back(), 21);
            Due.is("read()", x.read(), 4);
            Due.is("ask(0)", x.ask(0), 1);
        }
    }
}
