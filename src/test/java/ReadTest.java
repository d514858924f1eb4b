/** Promises 4 and 5: read, place, and all FAULTS of a text. */
public final class ReadTest {
    public static void main(String[] args) {
        wholeTexts();
        noToken();
        cannotStandThere();
        tooMany();
        tooDeep();
        wordsOfTheOtherSort();
        tooManyAtoms();
        rolesUnderThemselves();
        leastFaultOfTheFirstToken();
        faultChangesOnlyTapeAndPlace();
        nothingStaysOfBooksBefore();
        Due.end();
    }

    private static void wholeTexts() {
        Due.noFault("");
        Due.noFault(" \n \n");
        Due.noFault("a<b;a=b;ask a;under r s;single t;");
        Due.noFault("\nask\nsome r((a)and\nb);  ");
        Due.noFault("abcdefg8 < z9; a0 < zzzzzzzz;");
        Due.fault("ask 0;", 1, 4);
        Due.noFault("ask askx and tops and not1 and orr;");
        Due.noFault("under r s; under r s; single t; single t;");
        Due.is("CONCEPTS", Due.fed("a < not b and some r (top or (bottom)); ask every r a;").read(), 10);
        Due.is("CONCEPTS", Due.fed("ask a; ask a; ask ((a)); single r;").read(), 3);
    }

    private static void noToken() {
        Due.fault("#", 1, 0);
        Due.fault("a < #;", 1, 4);
        Due.fault("a < abcdefghi;", 1, 4);
        Due.fault("a < 1b;", 1, 4);
        Due.fault("a < 7;", 1, 4);
        Due.fault("a\t< b;", 1, 1);
        Due.fault("a < b\r;", 1, 5);
        Due.fault("aB < top;", 1, 1);
        Due.fault("a < b;\u00e9", 1, 6);
        Due.fault("ask a # b;", 1, 6);
        Due.fault("under r #;", 1, 8);
        Due.fault("single abcdefghi;", 1, 7);
        Due.fault("ask a {", 1, 6);
        Due.fault("ask a `", 1, 6);
        Due.fault("ask a /", 1, 6);
        Due.fault("ask a :", 1, 6);
        Due.fault("ask a > b;", 1, 6);
    }

    private static void cannotStandThere() {
        Due.fault("a;", 2, 1);
        Due.fault("a < b", 2, 5);
        Due.fault("a < b  ", 2, 7);
        Due.fault("ask;", 2, 3);
        Due.fault("< a;", 2, 0);
        Due.fault("or < a;", 2, 0);
        Due.fault("; ask a;", 2, 0);
        Due.fault("ask a;;", 2, 6);
        Due.fault("ask (a;", 2, 6);
        Due.fault("ask a);", 2, 5);
        Due.fault("ask ();", 2, 5);
        Due.fault("a < b = a;", 2, 6);
        Due.fault("under r;", 2, 7);
        Due.fault("under not r;", 2, 6);
        Due.fault("under r s t;", 2, 10);
        Due.fault("single;", 2, 6);
        Due.fault("single r s;", 2, 9);
        Due.fault("ask some top a;", 2, 9);
        Due.fault("ask some r;", 2, 10);
        Due.fault("ask a not b;", 2, 6);
        Due.fault("ask a or;", 2, 8);
        Due.fault("ask a and or b;", 2, 10);
        Due.fault("ask a b;", 2, 6);
        Due.fault("ask not", 2, 7);
        Due.fault("ask every", 2, 9);
        Due.fault("a", 2, 1);
        Due.fault("top = under", 2, 6);
    }

    private static void tooMany() {
        Due.noFault("ask a and b and c and d and e and a;");
        Due.fault("ask a and b and c and d and e and f;", 3, 34);
        Due.noFault("under r s; single t; ask some s a;");
        Due.fault("under r s; single t; single u;", 3, 28);
        Due.fault("under r s; ask some t some u a;", 3, 27);
        String rules = Due.times("a<a;", 12);
        Due.noFault(rules + "ask a;");
        Due.fault(rules + "ask a; not a < a;", 3, 55);
        Due.fault(rules + "a", 3, 48);
        Due.fault(rules + "(a) = a;", 3, 48);
        String questions = Due.times("ask a;", 12);
        Due.noFault(questions + "a<a;");
        Due.fault(questions + "ask a;", 3, 72);
        Due.fault(questions + "a<a;ask#", 3, 76);
        // 100 NAMES and 99 and: one CONCEPT is left
        String chain = "ask a" + Due.times(" and a", 99) + ";";
        Due.is("CONCEPTS of a long chain", Due.fed(chain + "ask a;").read(), 200);
        Due.noFault(chain + "ask (((a)));");
        int size = chain.length();
        Due.fault(chain + "ask a; ask a;", 3, size + 11);
        Due.fault(chain + "ask a and a;", 3, size + 6);
        Due.fault(chain + "ask a or a;", 3, size + 6);
        Due.fault(chain + "ask not a;", 3, size + 8);
        Due.fault(chain + "ask not top;", 3, size + 8);
        Due.fault(chain + "ask a; ask some r a;", 3, size + 11);
        Due.fault(chain + "ask a; ask (bottom);", 3, size + 12);
    }

    /** What is within 12 others is itself one of not, some, every, ( as they are. */
    private static void tooDeep() {
        Due.noFault("ask " + Due.times("(", 12) + "a and b" + Due.times(")", 12) + ";");
        Due.noFault("ask " + Due.times("not ", 12) + "a;");
        Due.noFault("ask " + Due.times("not ", 11) + "some r top;");
        Due.fault("ask " + Due.times("(", 13) + "a" + Due.times(")", 13) + ";", 3, 16);
        Due.fault("ask " + Due.times("not ", 13) + "a;", 3, 52);
        Due.fault("ask " + Due.times("not ", 12) + "(a);", 3, 52);
        Due.fault("ask " + Due.times("not ", 12) + "some r a;", 3, 52);
        Due.fault("ask " + Due.times("not ", 12) + "every #", 3, 52);
        Due.fault("ask " + Due.times("some r ", 6) + Due.times("every r(", 3) + "not top", 3, 70);
        Due.fault(Due.times("(", 13) + "a", 3, 12);
        // what is closed does not count
        Due.noFault("ask " + Due.times("(not a) and ", 14) + "a;");
        Due.noFault(Due.times("ask not (not (not (not a)));", 5));
        Due.noFault("ask " + Due.times("(", 12) + "a and a or a" + Due.times(")", 12) + " and not a;");
    }

    private static void wordsOfTheOtherSort() {
        Due.fault("under r s; ask r;", 4, 15);
        Due.fault("ask a and some a b;", 4, 15);
        Due.fault("ask some r r;", 4, 11);
        Due.fault("ask a; single a;", 4, 14);
        Due.fault("ask a; under r a;", 4, 15);
        Due.fault("single r; r < a;", 4, 10);
    }

    private static void tooManyAtoms() {
        // a b, and of r: a, b, not a, not b, top, bottom, a and b: nine
        String nine = "ask some r a or some r b or every r a or every r b or some r top"
            + " or some r bottom or some r (a and b);";
        int size = nine.length();
        TypeCourt x = Due.told(nine);
        Due.is("ATOMS", x.count(5), 9);
        Due.noFault(nine + "ask every r not a; ask some r not b; ask some r ((a) and b);");
        Due.fault(nine + "ask c;", 5, size + 4);
        Due.fault(nine + "ask some r (b and a);", 5, size + 4);
        Due.fault(nine + "ask every r (a and b);", 5, size + 4);
        Due.fault(nine + "ask some s top;", 5, size + 4);
        Due.fault(nine + "ask not (a and every r not not not a);", 5, size + 15);
        Due.fault(nine + "ask some r some r some r a;", 5, size + 11);
        Due.fault(nine + "ask some r (a and c);", 5, size + 18);
        // another FAULT up to the end of the CONCEPT comes ahead of it
        Due.fault(nine + "ask some r (b and #);", 1, size + 18);
        Due.fault(nine + "ask some r (b and a", 2, size + 19);
        Due.fault(nine + "ask some r (b or r);", 4, size + 17);
        Due.fault(nine + "ask some r (b and a) #", 5, size + 4);
    }

    private static void rolesUnderThemselves() {
        Due.fault("under r r;", 6, 8);
        Due.fault("under r s; under s r;", 6, 19);
        Due.fault("under r s; under s t; under t r;", 6, 30);
        Due.fault("under s t; under r s; under t r;", 6, 30);
        Due.noFault("under r s; under s t; under r t;");
        Due.fault("single r; under r s;", 6, 16);
        Due.fault("single s; under r s;", 6, 18);
        Due.fault("under r s; single r;", 6, 18);
        Due.fault("under r s; single s;", 6, 18);
        Due.noFault("ask some r a; single r; under s t;");
    }

    private static void leastFaultOfTheFirstToken() {
        String rules = Due.times("a<a;", 12);
        Due.fault(rules + "or", 2, 48);
        Due.fault(rules + "9", 1, 48);
        Due.fault("single r;" + rules + "r < a;", 3, 57);
        Due.fault("ask a and b and c and d and e and f and #;", 3, 34);
        Due.fault("ask # and a;;", 1, 4);
        // of a ROLE that is no 6th NAME, being no NAME: 4
        Due.fault("single r; ask a and b and c and d and e and r;", 4, 44);
        Due.fault("ask " + Due.times("not ", 12) + "#", 1, 52);
        Due.fault("ask " + Due.times("not ", 12) + ";", 2, 52);
        Due.fault("single r; ask " + Due.times("not ", 12) + "r", 4, 62);
    }

    private static void faultChangesOnlyTapeAndPlace() {
        TypeCourt x = Due.told("a < some r b; ask a;");
        x.print();
        x.world(0);
        Due.feed(x, "ask c; ask d; ask #;");
        Due.is("read", x.read(), -1);
        Due.is("place", x.place(), 18);
        Due.is("cut(1)", x.cut(1), -103);
        Due.is("count(0)", x.count(0), 2);
        Due.is("count(3)", x.count(3), 1);
        Due.is("count(4)", x.count(4), 4);
        Due.is("count(9)", x.count(9), 2);
        Due.is("count(10)", x.count(10), 1);
        Due.text("out", Due.out(x), "a < some r b;\nask a;\n");
        Due.is("ask(0)", x.ask(0), 1);
        Due.is("thing(0)", x.thing(0), 5);
        Due.is("read of nothing", x.read(), 0);
        Due.is("place", x.place(), -1);
        Due.is("count(9)", x.count(9), 0);
        Due.is("count(0)", x.count(0), 0);
        Due.is("THE OUT stays", x.count(11), 21);
        TypeCourt y = Due.fed("ask a");
        Due.is("read", y.read(), -2);
        TapeTest.noBook(y);
    }

    private static void nothingStaysOfBooksBefore() {
        TypeCourt x = new TypeCourt();
        for (int n = 0; n < 4; n++) {
            Due.feed(x, "under r s; under s t; a < b; ask c and some r a;");
            Due.is("read", x.read(), 6);
            Due.feed(x, "under t s; single a; ask some a t;");
            Due.is("read", x.read(), -4);
            Due.feed(x, "under t s; under s r; ask some r d and every t not d;");
            Due.is("read", x.read(), 6);
            Due.is("count(0)", x.count(0), 1);
            Due.is("count(1)", x.count(1), 3);
            Due.is("ask(0)", x.ask(0), 1);
        }
    }
}
