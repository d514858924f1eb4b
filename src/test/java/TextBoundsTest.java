/** "Terms", part 1: THE TAPE, TOKENS, statements, CONCEPTS and ATOMS; a test for each sentence that names a bound. */
public final class TextBoundsTest {
    private static final String[] KEYWORDS = {"ask", "under", "single", "or", "and", "not", "some", "every", "top", "bottom"};

    public static void main(String[] args) {
        numbersFromZero();
        tapeOf2000Bytes();
        readTakesTheWhole();
        tapeIsEmptyThen();
        inPlaceOfTheBookThere();
        faultChangesNothing();
        asLongAsCanBe();
        blanksBetweenOrNone();
        wordsOfOneToEightBytes();
        signs();
        rowIsOneTokenOrNone();
        bookOfAnyStatements();
        statementsToTheirEnd();
        keywordsAreNoNames();
        needNotBeToldAhead();
        wordOfTheOtherSort();
        namesAndRolesAsMet();
        rulesAndQuestionsByThemselves();
        conceptsAsOftenAsTheyStand();
        leftFirst();
        likeAsideOfBracketsAndBlanks();
        atomsPartsAhead();
        atomOfEveryRole();
        atomOfNotNot();
        oneAtomForAllLike();
        Due.end();
    }

    private static void numbersFromZero() {
        Due.sentence("What has a number has it from 0 on. NONE is -1.");
        Due.is("NONE", TypeCourt.NONE, -1);
        Due.is("STATE", TypeCourt.STATE, -101);
        Due.is("UNKNOWN", TypeCourt.UNKNOWN, -102);
        Due.is("OUTSIDE", TypeCourt.OUTSIDE, -103);
        Due.is("FULL", TypeCourt.FULL, -104);
        TypeCourt x = Due.told("some r a < bottom; ask not a; ask some r a;");
        Due.is("NAME 0", x.atom(0, 1), 0);
        Due.is("ROLE 0", x.atom(1, 0), 0);
        Due.is("bit 0 for RULE 0", x.bones(1), 1);
        Due.is("QUESTION 0", x.ask(0), 1);
        Due.is("bit 0 for ATOM 0", x.at(0, 1), 0);
        Due.is("TYPE 0", x.rank(0), -1);
        Due.is("world(0)", x.world(0), 1);
        Due.is("THING 0", x.thing(0), 0);
        TypeCourt y = Due.told("top < some r top; ask top;");
        y.world(0);
        Due.is("EDGE 0", y.edge(0, 2), 0);
    }

    private static void tapeOf2000Bytes() {
        Due.sentence("THE TAPE has 2000 bytes at most");
        TypeCourt x = new TypeCourt();
        for (int n = 1; n <= 99; n++) {
            x.feed(0x20202020, 0x20202020, 0x20202020, 0x20202020, 0x20202020);
        }
        Due.is("feed to the brim", x.feed(0x2061736B, 0x20616161, 0x61616161, 0x61202020, 0x2020203B), 2000);
        Due.is("feed of a full one", x.feed(0x23232323, 0x23232323, 0x23232323, 0x23232323, 0x23232323), -104);
        Due.is("cut(2001)", x.cut(2001), -103);
        Due.is("cut(2000)", x.cut(2000), 0);
        Due.is("read of 2000 bytes", x.read(), 1);
        Due.is("print", x.print(), 14);
        Due.text("out", Due.out(x), "ask aaaaaaaa;\n");
    }

    private static void readTakesTheWhole() {
        Due.sentence("read() takes it, as a whole");
        Due.fault(Due.times(" ", 1999) + "#", 1, 1999);
        Due.fault(Due.times(" ", 1994) + "ask a;", 0, -1);
        Due.fault(Due.times(" ", 1995) + "ask a", 2, 2000);
        Due.fault("#" + Due.times(" ", 1999), 1, 0);
        Due.fault("#", 1, 0);
    }

    private static void tapeIsEmptyThen() {
        Due.sentence("(it is empty then)");
        for (String text : new String[] {"ask a;", "ask a", "", Due.times(" ", 2000), Due.times("#", 2000)}) {
            TypeCourt x = Due.fed(text);
            x.read();
            Due.is("cut(1) after read()", x.cut(1), -103);
            Due.is("cut(0) after read()", x.cut(0), 0);
            Due.is("read() of the empty one", x.read(), 0);
            Due.is("feed after read()", x.feed(0, 0, 0, 0, 0), 20);
        }
    }

    private static void inPlaceOfTheBookThere() {
        Due.sentence("as THE BOOK in place of the one there");
        TypeCourt x = Due.told("under r s; single t; a < b; ask a and c; d = e; ask some r top;");
        x.world(0);
        Due.feed(x, "ask r;");
        Due.is("read()", x.read(), 1);
        Due.text("state", Due.state(x), Due.state(Due.told("ask r;")));
        Due.is("ask(1)", x.ask(1), -102);
        Due.is("read() of an empty TAPE", x.read(), 0);
        Due.text("state", Due.state(x), Due.state(Due.told("")));
        Due.is("ask(0)", x.ask(0), -102);
        Due.is("isUnder(0, 0)", x.isUnder(0, 0), -102);
        // of no book before does anything stay, be it the last one or the one ahead of that
        String[] texts = {"under r s; under t s; ask some r a and every s not a; ask some t a;",
            "single r; single s; ask some r a and some r not a; ask some s b and some s c; a < b;",
            "ask some s top or some r bottom; under s t; under t r; ask every r a; b < bottom; b < some r b;",
            "single t; ask some s a and some r b and some t a; ask c; a < bottom;", "ask d; ask some t d; under s r;"};
        for (int n = 0; n < 60; n++) {
            String next = texts[n * n / 3 % 5];
            Due.feed(x, next);
            x.read();
            TypeCourt fresh = Due.told(next);
            Due.is("world(0)", x.world(0), fresh.world(0));
            x.print();
            fresh.print();
            Due.text("state", Due.state(x), Due.state(fresh));
        }
    }

    private static void faultChangesNothing() {
        Due.sentence("or it has a FAULT, and nothing is changed but THE TAPE and place()");
        String[] faulty = {"b < a; ask b; #", "ask d; under s r; ask", "ask a and b and c and d and e and f;",
            "single z; ask z;", "under z z;", "ask some r a or some s a or some r b or some s b"
            + " or some r top or some s top or some r bottom or some s bottom;"};
        int[] number = {1, 2, 3, 4, 6, 5};
        int[] place = {14, 21, 34, 14, 8, 97};
        TypeCourt x = Due.told("under r s; a < some r b; c < bottom; ask a; ask c;");
        x.world(0);
        x.print();
        String before = Due.state(x);
        for (int n = 0; n < faulty.length; n++) {
            Due.feed(x, faulty[n]);
            Due.is("read() of " + faulty[n], x.read(), -number[n]);
            Due.is("place() of " + faulty[n], x.place(), place[n]);
            Due.text("state", Due.state(x), before.replace("place -1", "place " + place[n]));
            TypeCourt y = Due.fed(faulty[n]);
            Due.is("read() of " + faulty[n], y.read(), -number[n]);
            TapeTest.noBook(y);
        }
        Due.feed(x, "ask a;");
        x.print();
        Due.is("THE TAPE was not touched by print()", x.cut(6), 0);
    }

    private static void asLongAsCanBe() {
        Due.sentence("TOKENS, as long as can be");
        TypeCourt x = Due.told("ask asks and ask0 and underr and nota and orr;");
        Due.is("NAMES", x.count(0), 5);
        TypeCourt y = Due.told("single somer; single everyr; single tops;ask andand and bottom1 and singles;");
        Due.is("NAMES", y.count(0), 3);
        Due.is("ROLES", y.count(1), 3);
        Due.fault("aska;", 2, 4);
        Due.fault("ask nota b;", 2, 9);
        Due.fault("ask a andb;", 2, 6);
        Due.fault("ask somer a;", 2, 10);
        Due.fault("a<=b;", 2, 2);
        Due.fault("ask a1 and a 1;", 1, 13);
    }

    private static void blanksBetweenOrNone() {
        Due.sentence("blanks (10, 32) between them or none");
        for (int b = 0; b < 256; b++) {
            boolean blank = b == 10 || b == 32;
            boolean inRow = b >= 'a' && b <= 'z' || b >= '0' && b <= '9';
            int due = blank || inRow ? 0 : "<=;()".indexOf(b) >= 0 ? 2 : 1;
            int place = due == 0 ? -1 : b == ';' ? 6 : 5;
            Due.fault("ask a" + (char) b + ";", due, place);
            String aside = "ask" + (char) b + "a;";
            if (!inRow) {
                Due.fault(aside, b == '(' ? 2 : due, blank ? -1 : b == '(' ? 5 : 3);
            }
        }
        Due.noFault("a<b;a=b;ask(a);under r s;");
        Due.noFault("  \n\n a \n<\n b\n;\n \n");
        Due.noFault("\n");
        Due.is("FAULT of no blank between WORDS", Due.fed("under rs;").read(), -2);
    }

    private static void wordsOfOneToEightBytes() {
        Due.sentence("WORDS (letters a to z, then such letters and digits), 1 to 8 bytes");
        for (int n = 1; n <= 12; n++) {
            Due.fault("ask " + Due.times("q", n) + ";", n <= 8 ? 0 : 1, n <= 8 ? -1 : 4);
            Due.fault("single " + Due.times("q", n) + ";", n <= 8 ? 0 : 1, n <= 8 ? -1 : 7);
            Due.fault("ask q" + Due.times("9", n) + ";", n <= 7 ? 0 : 1, n <= 7 ? -1 : 4);
        }
        for (int c = 0; c < 256; c++) {
            boolean letter = c >= 'a' && c <= 'z';
            boolean digit = c >= '0' && c <= '9';
            Due.is("a WORD that begins with " + c, Due.fed((char) c + "=top;").read() == 2 ? 1 : 0, letter ? 1 : 0);
            TypeCourt x = Due.fed("ask b" + (char) c + ";");
            boolean longer = x.read() == 1 && x.print() == 8;
            Due.is("a WORD that ends with " + c, longer ? 1 : 0, letter || digit ? 1 : 0);
        }
        // all eight bytes count, and a WORD is not one that it begins
        TypeCourt x = Due.told("ask abcdefgh and abcdefgi and abcdefg and bbcdefgh and a;");
        Due.is("NAMES", x.count(0), 5);
        x.print();
        Due.text("out", Due.out(x), "ask abcdefgh and abcdefgi and abcdefg and bbcdefgh and a;\n");
    }

    private static void signs() {
        Due.sentence("SIGNS < = ; ( )");
        Due.noFault("((a))<(b);a=(a);");
        for (String sign : new String[] {">", "+", "-", ":", ",", ".", "[", "]", "{", "}", "&", "|", "!", "*", "'"}) {
            Due.fault("ask a" + sign, 1, 5);
            Due.fault(sign, 1, 0);
        }
    }

    private static void rowIsOneTokenOrNone() {
        Due.sentence("A row of letters and digits is one TOKEN, or none, if it is no WORD");
        Due.fault("ask 1a;", 1, 4);
        Due.fault("ask 1;", 1, 4);
        Due.fault("ask 0ask;", 1, 4);
        Due.fault("askaskask a;", 1, 0);
        Due.fault("ask abcdefgh9;", 1, 4);
        Due.fault("ask a and 12345678;", 1, 10);
        Due.fault("ask " + Due.times("a", 16) + ";", 1, 4);
        Due.fault("ask bbbbbbbbnot a;", 1, 4);
        Due.fault(Due.times("a", 2000), 1, 0);
        Due.fault("a" + Due.times("0", 1999), 1, 0);
        Due.fault("ask " + Due.times("7", 1996), 1, 4);
        Due.fault("aB=top;", 1, 1);
    }

    private static void bookOfAnyStatements() {
        Due.sentence("book = {statement}");
        Due.is("CONCEPTS of no statement", Due.fed("").read(), 0);
        Due.is("CONCEPTS of blanks alone", Due.fed(" \n ").read(), 0);
        TypeCourt x = Due.told(Due.times("single r;", 222));
        Due.is("bytes of 222 statements", x.print(), 2220);
        Due.is("CONCEPTS of 222 statements", x.count(4), 0);
        Due.is("out(2219)", x.out(2219), 10);
    }

    private static void statementsToTheirEnd() {
        Due.sentence("statement = concept '<' concept ';' | concept '=' concept ';' | 'ask' concept ';' |"
            + " 'under' ROLE ROLE ';' | 'single' ROLE ';'");
        String[] tokens = ("a < some r ( b or top ) and not a ; ( a ) = every r not bottom ; ask a ; under r s ;"
            + " single t ; ask ( ( a and b ) ) ;").split(" ");
        StringBuilder text = new StringBuilder();
        for (String token : tokens) {
            text.append(token);
            // a text may end behind a statement alone
            Due.fault(text.toString(), token.equals(";") ? 0 : 2, token.equals(";") ? -1 : text.length());
            text.append(' ');
        }
        String whole = text.toString();
        for (int i = 0; i < whole.length(); i++) {
            if (whole.charAt(i) == ';') {
                Due.fault(whole.substring(0, i) + ")", 2, i);
                Due.fault(whole.substring(0, i) + "ask", 2, i);
                Due.fault(whole.substring(0, i + 1) + ";", 2, i + 1);
                Due.fault(whole.substring(0, i + 1) + "<", 2, i + 1);
            }
        }
        Due.fault("under r;", 2, 7);
        Due.fault("under r s s;", 2, 10);
        Due.fault("single ;", 2, 7);
        Due.fault("ask ;", 2, 4);
        Due.fault("ask a < b;", 2, 6);
        Due.fault("a and b;", 2, 7);
    }

    private static void keywordsAreNoNames() {
        Due.sentence("NAMES, ROLES are WORDS that are none of ask, under, single, or, and, not, some, every, top, bottom");
        for (String word : KEYWORDS) {
            Due.fault("single " + word + ";", 2, 7);
            Due.fault("under " + word + " r;", 2, 6);
            Due.fault("under r " + word + ";", 2, 8);
            Due.fault("ask some " + word + " a;", 2, 9);
            Due.fault("ask every " + word + " a;", 2, 10);
            TypeCourt x = Due.fed("ask a and " + word + ";");
            boolean stands = word.equals("top") || word.equals("bottom");
            Due.is("ask a and " + word, x.read(), stands ? 3 : -2);
            if (stands) {
                Due.is("NAMES of ask a and " + word, x.count(0), 1);
            }
            Due.is("NAMES of " + word + "1", Due.told("ask a and " + word + "1;").count(0), 2);
            String shorter = word.substring(0, word.length() - 1);
            Due.is("NAMES of " + shorter, Due.told("ask b and " + shorter + ";").count(0), 2);
        }
    }

    private static void needNotBeToldAhead() {
        Due.sentence("They need not be told ahead");
        TypeCourt x = Due.told("ask some r a;");
        Due.is("NAMES", x.count(0), 1);
        Due.is("ROLES", x.count(1), 1);
        Due.noFault("under r s;");
        Due.noFault("single r;");
    }

    private static void wordOfTheOtherSort() {
        Due.sentence("a WORD that was met as a ROLE can be no NAME, and the other way round");
        Due.fault("ask some r r;", 4, 11);
        Due.fault("ask a and some a b;", 4, 15);
        Due.fault("single r; ask r;", 4, 14);
        Due.fault("ask r; single r;", 4, 14);
        Due.fault("ask r; under r s;", 4, 13);
        Due.fault("ask r; under s r;", 4, 15);
        Due.fault("r < top; ask every r top;", 4, 19);
        Due.fault("under s r; r = top;", 4, 11);
        // a book that is gone, or was never whole, met nothing
        TypeCourt x = Due.told("ask a; single r;");
        Due.feed(x, "ask s; single t; #");
        Due.is("read()", x.read(), -1);
        Due.feed(x, "ask r and t; single a; single s;");
        Due.is("read()", x.read(), 3);
    }

    private static void namesAndRolesAsMet() {
        Due.sentence("NAMES, ROLES are numbered as they are met");
        TypeCourt x = Due.told("under t s; ask some r c and b; b < a; a < every s c;");
        // ATOMS c, SOME r c, b, a, SOME s not c
        int[] roles = {-1, 2, -1, -1, 1};
        int[] names = {0, -1, 1, 2, -1};
        for (int k = 0; k < 5; k++) {
            Due.is("atom(" + k + ", 0)", x.atom(k, 0), roles[k]);
            Due.is("atom(" + k + ", 1)", x.atom(k, 1), names[k]);
        }
        Due.is("isUnder(1, 2)", x.isUnder(1, 2), 1);
        Due.is("isUnder(2, 1)", x.isUnder(2, 1), 0);
    }

    private static void rulesAndQuestionsByThemselves() {
        Due.sentence("RULES are the statements of < and =, QUESTIONS those of ask, each numbered by themselves");
        TypeCourt x = Due.told("ask a; under r s; b < top; ask not b; single t; b = bottom; ask b; a < top; a = bottom;");
        Due.is("RULES", x.count(2), 4);
        Due.is("QUESTIONS", x.count(3), 3);
        Due.is("bones(0)", x.bones(0), 8);
        Due.is("bones(1)", x.bones(1), -1);
        Due.is("bones(2)", x.bones(2), 2);
        Due.is("bones(3)", x.bones(3), -102);
    }

    private static void concepts(String text, int due) {
        Due.is("CONCEPTS of " + text, Due.fed(text).read(), due);
    }

    private static void conceptsAsOftenAsTheyStand() {
        Due.sentence("CONCEPTS are all NAMES, top, bottom, not, some, every, and, or that stand in concepts,"
            + " as often as they do (brackets are none)");
        concepts("under r s; single t;", 0);
        concepts("ask a;", 1);
        concepts("ask top;", 1);
        concepts("ask bottom;", 1);
        concepts("ask ((((a))));", 1);
        concepts("ask not a;", 2);
        concepts("ask some r a;", 2);
        concepts("ask every r a;", 2);
        concepts("ask a and a;", 3);
        concepts("ask a or a;", 3);
        concepts("a < a; a = a; ask a; ask a;", 6);
        concepts("ask a and (a or a) and a;", 7);
    }

    private static void printed(String text, String due) {
        TypeCourt x = Due.told(text);
        x.print();
        Due.text("out of " + text, Due.out(x), due);
    }

    private static void leftFirst() {
        Due.sentence("and, or take what is to the left first: a and b and c is (a and b) and c");
        printed("ask (a and b) and c;", "ask a and b and c;\n");
        printed("ask a and (b and c);", "ask a and (b and c);\n");
        printed("ask (a or b) or c;", "ask a or b or c;\n");
        printed("ask a or (b or c);", "ask a or (b or c);\n");
        Due.is("ATOMS", Due.told("ask some r (a or b or c) and some r ((a or b) or c);").count(5), 4);
        Due.is("ATOMS", Due.told("ask some r (a or b or c) and some r (a or (b or c));").count(5), 5);
        Due.is("ATOMS", Due.told("ask some r (a and b and c) and some r ((a and b) and c);").count(5), 4);
        Due.is("ATOMS", Due.told("ask some r (a and b and c) and some r (a and (b and c));").count(5), 5);
        Due.is("ATOMS", Due.told("ask some r (a or b and c) and some r (a or (b and c));").count(5), 4);
        Due.is("ATOMS", Due.told("ask some r (a or b and c) and some r ((a or b) and c);").count(5), 5);
        Due.is("ATOMS", Due.told("ask some r (not a and b) and some r ((not a) and b);").count(5), 3);
        Due.is("ATOMS", Due.told("ask some r (not a and b) and some r not (a and b);").count(5), 4);
        Due.is("ATOMS", Due.told("ask some s (some r a and b) and some s ((some r a) and b);").count(5), 4);
    }

    private static void likeAsideOfBracketsAndBlanks() {
        Due.sentence("LIKE are two that are written alike, blanks and brackets that are not needed aside");
        Due.is("ATOMS", Due.told("ask some r a; ask some r(((a)));ask some\nr\na;").count(5), 2);
        Due.is("ATOMS", Due.told("ask some r not a; ask some r (not((a)));").count(5), 2);
        Due.is("ATOMS", Due.told("ask some r (a and b); ask some r (b and a);").count(5), 4);
        Due.is("ATOMS", Due.told("ask some r (a and a); ask some r a;").count(5), 3);
        Due.is("ATOMS", Due.told("ask some r not not a; ask some r a;").count(5), 3);
        Due.is("ATOMS", Due.told("ask some r top; ask some r not bottom;").count(5), 2);
        Due.is("ATOMS", Due.told("ask some s some r a; ask some s not every r not a;").count(5), 4);
        Due.is("ATOMS", Due.told("ask some s every r a; ask some s every r (a);").count(5), 3);
    }

    private static void atomsPartsAhead() {
        Due.sentence("ATOMS are numbered as they come, each CONCEPT's parts ahead of it");
        TypeCourt x = Due.told("ask some r some s a; some r b < every s c; ask a;");
        // a, SOME s a, SOME r some s a, b, SOME r b, c, SOME s not c
        int[] roles = {-1, 1, 0, -1, 0, -1, 1};
        int[] names = {0, -1, -1, 1, -1, 2, -1};
        Due.is("ATOMS", x.count(5), 7);
        for (int k = 0; k < 7; k++) {
            Due.is("atom(" + k + ", 0)", x.atom(k, 0), roles[k]);
            Due.is("atom(" + k + ", 1)", x.atom(k, 1), names[k]);
        }
    }

    private static void atomOfEveryRole() {
        Due.sentence("of each NAME one; of each some R C one that is SOME R C; of each every R C one that is SOME R not C,"
            + " and every R C is where that is not");
        TypeCourt x = Due.told("ask a; ask some r a; ask every r a; ask every r bottom; ask not a;");
        Due.is("ATOMS", x.count(5), 4);
        for (int t = 0; t < 16; t++) {
            Due.is("at(0, " + t + ")", x.at(0, t), t & 1);
            Due.is("at(1, " + t + ")", x.at(1, t), t >> 1 & 1);
            Due.is("at(2, " + t + ")", x.at(2, t), ~t >> 2 & 1);
            Due.is("at(3, " + t + ")", x.at(3, t), ~t >> 3 & 1);
        }
        Due.is("no ATOM of top, bottom, not, and, or", Due.told("ask not top and (bottom or not not top);").count(5), 0);
    }

    private static void atomOfNotNot() {
        Due.sentence("Of SOME R X, X being C or not C, where C is itself not D: X is taken as not D, as D");
        Due.is("ATOMS", Due.told("ask every r not a; ask some r a;").count(5), 2);
        Due.is("ATOMS", Due.told("ask every r a; ask some r not a;").count(5), 2);
        Due.is("ATOMS", Due.told("ask every r not not a; ask some r not a;").count(5), 2);
        Due.is("ATOMS", Due.told("ask every r not not not a; ask some r not not a;").count(5), 2);
        Due.is("ATOMS", Due.told("ask every r not not not a; ask some r a;").count(5), 3);
        Due.is("ATOMS", Due.told("ask every r a; ask some r a;").count(5), 3);
        // what is taken is also what it means
        TypeCourt x = Due.told("ask every r not a; ask some r a; ask every r not not b; ask some r not b;");
        // ATOMS a, SOME r a, b, SOME r not b
        for (int t = 0; t < 16; t++) {
            for (int u = 0; u < 16; u++) {
                boolean due = ((t & 2) != 0 || (u & 1) == 0) && ((t & 8) != 0 || (u & 4) != 0);
                Due.is("goes(" + t + ", 0, " + u + ")", x.goes(t, 0, u), due ? 1 : 0);
            }
            Due.is("at(0, " + t + ")", x.at(0, t), 1 - x.at(1, t));
            Due.is("at(2, " + t + ")", x.at(2, t), 1 - x.at(3, t));
        }
    }

    private static void oneAtomForAllLike() {
        Due.sentence("There is one ATOM for all SOME R X of one ROLE with X LIKE");
        TypeCourt x = Due.told("ask some r a; ask some r a; ask some s a; ask (some r (a)) and every s not a;");
        Due.is("ATOMS", x.count(5), 3);
        Due.is("atom(1, 0)", x.atom(1, 0), 0);
        Due.is("atom(2, 0)", x.atom(2, 0), 1);
        Due.is("ATOMS of twelve", Due.told(Due.times("ask some r (a or not a);", 12)).count(5), 2);
    }
}
