/** "Terms", part 1: the FAULTS 1 to 6; a test for each sentence and for each bound that it names. */
public final class FaultBoundsTest {
    private static final String RULES = Due.times("a<a;", 12);
    private static final String QUESTIONS = Due.times("ask a;", 12);
    /** 199 CONCEPTS. */
    private static final String CHAIN = "ask a" + Due.times(" and a", 99) + ";";
    /** Nine ATOMS: a, b and seven of r. */
    private static final String NINE = "ask some r a or some r b or every r a or every r b or some r top"
        + " or some r bottom or some r (a and b);";

    public static void main(String[] args) {
        firstTokenThatHasOne();
        endIsOneToo();
        ofTheseTheLeast();
        fault1();
        fault2();
        sixthName();
        fourthRole();
        thirteenthRule();
        thirteenthQuestion();
        concept201();
        concept201AtItsFirstToken();
        withinTwelveOthers();
        fault4();
        tenthAtomOfName();
        tenthAtomOfSomeAndEvery();
        noTenthAtom();
        askedWhereItsConceptEnds();
        underItself();
        underTheFirstOne();
        toldOfByTheOther();
        Due.end();
    }

    private static void firstTokenThatHasOne() {
        Due.sentence("FAULTS: the first TOKEN that has one");
        Due.fault("ask ; #", 2, 4);
        Due.fault("ask a and b and c and d and e and f #", 3, 34);
        Due.fault("ask r; ask some r #", 4, 16);
        Due.fault(NINE + "ask c #", 5, NINE.length() + 4);
        Due.fault("under r r #", 6, 8);
        Due.fault("under r r; ask r; ask #", 6, 8);
        Due.fault("single r; under r s #", 6, 16);
        Due.fault("under r s; single s ) #", 6, 18);
        Due.fault("ask r; single r; under s s;", 4, 14);
        Due.fault("under s s; single r; ask r;", 6, 8);
        Due.fault("# ask", 1, 0);
        Due.fault("ask # ;;", 1, 4);
        Due.fault("ask a # #", 1, 6);
    }

    private static void endIsOneToo() {
        Due.sentence("(the end is one, too, at the text's length)");
        Due.fault("ask", 2, 3);
        Due.fault("ask  \n ", 2, 7);
        Due.fault("ask a", 2, 5);
        Due.fault("ask (a ", 2, 7);
        Due.fault("under r ", 2, 8);
        Due.fault("single ", 2, 7);
        Due.fault("a <", 2, 3);
        Due.fault("a < b;c", 2, 7);
        Due.fault("ask some", 2, 8);
        Due.fault("ask some r", 2, 10);
        Due.fault("ask a" + Due.times(" ", 1995), 2, 2000);
        Due.fault("ask a" + Due.times(" ", 1994), 2, 1999);
        Due.noFault("ask a;  ");
        // the end has no other FAULT: a 13th statement is none there
        Due.noFault(RULES);
        Due.noFault(QUESTIONS + "\n");
        Due.fault("ask " + Due.times("not ", 12), 2, 52);
    }

    private static void ofTheseTheLeast() {
        Due.sentence("of these the least");
        // none and in no place for one; none and within too many, too many
        Due.fault("ask a #", 1, 6);
        Due.fault(RULES + "9", 1, 48);
        Due.fault("ask " + Due.times("(", 12) + "abcdefghi", 1, 16);
        // in no place for one, where there could be no more either
        Due.fault(RULES + "or", 2, 48);
        Due.fault(CHAIN + "ask a and;", 3, CHAIN.length() + 6);
        Due.fault(CHAIN + "ask a; ask );", 2, CHAIN.length() + 11);
        Due.fault("ask " + Due.times("(", 12) + ")", 2, 16);
        Due.fault("ask a and b and c and d and e f;", 2, 30);
        Due.fault("single q; under r s t;", 2, 20);
        Due.fault("ask a; under q a", 4, 15);
        Due.fault("under r r r;", 6, 8);
        // too many, and a ROLE as a NAME or a 10th ATOM
        Due.fault("single r;" + RULES + "r < a;", 3, 57);
        Due.fault(CHAIN + "single r; ask a; ask r;", 3, CHAIN.length() + 21);
        String six = "ask a and b and c and d and e and some r a and some r b and some r c and some r d;";
        Due.fault(six + "ask f;", 3, six.length() + 4);
        Due.fault(six + "ask e; ask some s a;", 5, six.length() + 11);
        // a ROLE as a NAME, and a 10th ATOM
        Due.fault(NINE + "ask r;", 4, NINE.length() + 4);
    }

    private static void fault1() {
        Due.sentence("1 it is none");
        Due.fault("_", 1, 0);
        Due.fault("ask a; A < b;", 1, 7);
        Due.fault("ask abcdefghi;", 1, 4);
        Due.fault("ask some 9r a;", 1, 9);
        Due.fault("single r#;", 1, 8);
        Due.fault("\u0000", 1, 0);
        Due.fault("ask a;\u00ff", 1, 6);
        Due.fault("ask a;\u0080", 1, 6);
        Due.fault("ask a;\t", 1, 6);
    }

    private static void fault2() {
        Due.sentence("2 it cannot stand there");
        String[] beginners = {"ask", "under", "single", "not", "some", "every", "top", "bottom", "a", "("};
        for (String token : new String[] {"or", "and", "<", "=", ";", ")"}) {
            Due.fault(token + " a", 2, 0);
            Due.fault("ask " + token, 2, 4);
            Due.fault("ask not " + token, 2, 8);
            Due.fault("ask ( " + token, 2, 6);
            Due.fault("ask some r " + token, 2, 11);
            Due.fault("ask a and " + token, 2, 10);
            Due.fault("ask a or " + token, 2, 9);
            Due.fault("a < " + token, 2, 4);
            Due.fault("a = " + token, 2, 4);
            Due.fault("under " + token, 2, 6);
            Due.fault("under r " + token, 2, 8);
            Due.fault("single " + token, 2, 7);
        }
        for (String token : beginners) {
            Due.fault("ask a " + token, 2, 6);
            Due.fault("ask top " + token, 2, 8);
            Due.fault("ask (a) " + token, 2, 8);
            Due.fault("under r s " + token, 2, 10);
            Due.fault("single r " + token, 2, 9);
            Due.fault("a < b " + token, 2, 6);
        }
        for (String token : new String[] {"ask", "under", "single"}) {
            Due.fault("ask " + token, 2, 4);
            Due.fault("a < not " + token, 2, 8);
            Due.fault("ask (" + token, 2, 5);
        }
        for (String token : new String[] {"<", "=", ")"}) {
            Due.fault("ask a " + token, 2, 6);
            Due.fault("a < b " + token, 2, 6);
            Due.fault("a = b " + token, 2, 6);
            Due.fault("under r s " + token, 2, 10);
            Due.fault("single r " + token, 2, 9);
        }
        Due.fault("a ;", 2, 2);
        Due.fault("a )", 2, 2);
        Due.fault("ask (a ;", 2, 7);
        Due.fault("ask (a <", 2, 7);
        Due.fault("ask a and b) ;", 2, 11);
    }

    private static void sixthName() {
        Due.sentence("3 it is a 6th NAME");
        Due.noFault("ask a or b or c or d or e; ask e and d and c and b and a;");
        Due.fault("ask a or b or c or d or e or f;", 3, 29);
        Due.fault("ask a or b or c or d or e; f < a;", 3, 27);
        Due.fault("a < b; c < d; e < a; ask not (f);", 3, 30);
        Due.is("NAMES", Due.told("ask a or b or c or d or e;").count(0), 5);
        // a ROLE that stands there is no NAME
        Due.fault("single r; ask a or b or c or d or e or r;", 4, 39);
    }

    private static void fourthRole() {
        Due.sentence("a 4th ROLE");
        Due.noFault("under r s; single t; ask some r some s every t a;");
        Due.fault("under r s; single t; ask some u a;", 3, 30);
        Due.fault("under r s; single t; single u;", 3, 28);
        Due.fault("single r; single s; single t; under u v;", 3, 36);
        Due.fault("single s; under r u; under r v;", 3, 29);
        Due.fault("ask some r every s every t some u a;", 3, 32);
        Due.is("ROLES", Due.told("single r; single s; single t;").count(1), 3);
        Due.fault("ask a; single r; single s; single t; single a;", 4, 44);
    }

    private static void thirteenthRule() {
        Due.sentence("a 13th RULE (at its first TOKEN)");
        Due.noFault(RULES);
        Due.noFault(RULES + "ask a; under r s; single t; ask a;");
        Due.is("RULES", Due.told(Due.times("a=a;", 6) + Due.times("a<a;", 6)).count(2), 12);
        for (String first : new String[] {"a", "b", "top", "bottom", "not", "some", "every", "("}) {
            Due.fault(RULES + first, 3, 48);
            Due.fault(RULES + "ask a;" + first + " #", 3, 54);
        }
        Due.fault(Due.times("a=a;", 12) + "a = a;", 3, 48);
        Due.noFault(Due.times("a<a;", 11) + "a < a;");
    }

    private static void thirteenthQuestion() {
        Due.sentence("a 13th QUESTION (at its first TOKEN)");
        Due.noFault(QUESTIONS);
        Due.noFault(QUESTIONS + RULES + "under r s;");
        Due.is("QUESTIONS", Due.told(QUESTIONS).count(3), 12);
        Due.fault(QUESTIONS + "ask a;", 3, 72);
        Due.fault(QUESTIONS + "ask #", 3, 72);
        Due.fault(QUESTIONS + "a < a; ask", 3, 79);
        Due.fault(QUESTIONS + RULES + "ask", 3, 120);
        Due.noFault(Due.times("ask a;", 11) + "ask a;");
    }

    private static void concept201() {
        Due.sentence("a 201st CONCEPT");
        Due.is("199 CONCEPTS", Due.fed(CHAIN).read(), 199);
        Due.is("200 CONCEPTS", Due.fed(CHAIN + "ask a;").read(), 200);
        Due.is("200 CONCEPTS of not", Due.fed("ask a" + Due.times(" and a", 98) + "; ask not not a;").read(), 200);
        String fewer = "ask a" + Due.times(" and a", 98) + ";";
        Due.is("200 CONCEPTS of some", Due.fed(fewer + "ask some r some s a;").read(), 200);
        Due.is("200 CONCEPTS of every", Due.fed(fewer + "ask every r (every s (top));").read(), 200);
        Due.is("200 CONCEPTS of or", Due.fed(fewer + "ask (a or bottom);").read(), 200);
        Due.is("200 CONCEPTS of a RULE", Due.fed(fewer + "a < not a;").read(), 200);
        Due.is("200 CONCEPTS and brackets", Due.fed(CHAIN + "ask ((a)); under r s;").read(), 200);
        int end = CHAIN.length();
        Due.fault(CHAIN + "ask a; ask a;", 3, end + 11);
        Due.fault(CHAIN + "ask a; ask top;", 3, end + 11);
        Due.fault(CHAIN + "ask a; ask bottom;", 3, end + 11);
        Due.fault(CHAIN + "a < a;", 3, end + 4);
        Due.fault(CHAIN + "ask not a;", 3, end + 8);
        Due.fault(CHAIN + "ask some r a;", 3, end + 11);
        Due.fault(CHAIN + "ask every r top;", 3, end + 12);
    }

    private static void concept201AtItsFirstToken() {
        Due.sentence("(at its first TOKEN, of and, or at that)");
        int end = CHAIN.length();
        Due.fault(CHAIN + "ask a; ask not #", 3, end + 11);
        Due.fault(CHAIN + "ask a; ask some #", 3, end + 11);
        Due.fault(CHAIN + "ask a; ask every ;", 3, end + 11);
        Due.fault(CHAIN + "ask a; ask ((not a));", 3, end + 13);
        Due.fault(CHAIN + "ask a and #", 3, end + 6);
        Due.fault(CHAIN + "ask a or #", 3, end + 6);
        Due.fault(CHAIN + "ask (a) or a;", 3, end + 8);
        Due.fault("ask a" + Due.times(" or a", 100) + ";", 3, 504);
        Due.fault("ask a" + Due.times(" and a", 100) + ";", 3, 604);
    }

    private static void withinTwelveOthers() {
        Due.sentence("something within 12 others of not, some, every, ( (at it)");
        String[] holders = {"not ", "some r ", "every r ", "("};
        for (String outer : holders) {
            // so few of one sort that there are ATOMS for them
            String eleven = Due.times("not ", 4) + Due.times(outer, 4) + Due.times("not ", 3);
            String close = outer.equals("(") ? "))))" : "";
            for (String inner : holders) {
                String twelve = eleven + inner;
                String whole = close + (inner.equals("(") ? ")" : "");
                Due.noFault("ask " + twelve + "top" + whole + ";");
                Due.noFault("ask " + twelve + "bottom" + whole + ";");
                Due.noFault("ask " + twelve + "a" + whole + ";");
                for (String last : holders) {
                    Due.fault("ask " + twelve + last + "a", 3, 4 + twelve.length());
                    Due.fault("ask " + twelve + last + "#", 3, 4 + twelve.length());
                    Due.fault("a = " + twelve + last, 3, 4 + twelve.length());
                    Due.fault(twelve + last, 3, twelve.length());
                }
            }
        }
        Due.noFault("ask " + Due.times("(", 12) + "a" + Due.times(")", 12) + ";");
        Due.fault("ask " + Due.times("(", 13) + "a" + Due.times(")", 13) + ";", 3, 16);
        Due.noFault("ask " + Due.times("not ", 12) + "a;");
        Due.fault("ask " + Due.times("not ", 13) + "a;", 3, 52);
        // it is not how many there are, but how many it stands in
        Due.noFault("ask " + Due.times("not ", 12) + "a and " + Due.times("not ", 12) + "a;");
        Due.noFault("ask " + Due.times("(", 12) + "a" + Due.times(")", 12) + " or (not a);");
        Due.noFault("ask " + Due.times("(a and ", 12) + "a" + Due.times(")", 12) + ";");
        Due.fault("ask " + Due.times("(a and ", 12) + "not a", 3, 4 + 7 * 12);
        Due.fault("ask " + Due.times("(not ", 6) + "(a)", 3, 34);
    }

    private static void fault4() {
        Due.sentence("4 a ROLE as a NAME, a NAME as a ROLE");
        Due.fault("ask some r (a and r);", 4, 18);
        Due.fault("single r; top = r;", 4, 16);
        Due.fault("a = every a top;", 4, 10);
        Due.fault("ask a; under a r;", 4, 13);
        Due.fault("ask a; under r a;", 4, 15);
        Due.fault("ask a; single a;", 4, 14);
        // a NAME ahead of it was met by then: it need not be a whole statement
        Due.fault("a < some a top;", 4, 9);
        Due.fault("ask some r top and r;", 4, 19);
    }

    private static void tenthAtomOfName() {
        Due.sentence("5 a NAME .. that would come to a 10th ATOM");
        int end = NINE.length();
        Due.is("nine ATOMS", Due.told(NINE).count(5), 9);
        Due.fault(NINE + "ask c;", 5, end + 4);
        Due.fault(NINE + "c < a;", 5, end);
        Due.fault(NINE + "ask a and c #", 5, end + 10);
        Due.noFault(NINE + "ask a and b;");
    }

    private static void tenthAtomOfSomeAndEvery() {
        Due.sentence("5 .. some, every that would come to a 10th ATOM");
        int end = NINE.length();
        Due.fault(NINE + "ask some s a;", 5, end + 4);
        Due.fault(NINE + "ask every r (a and b);", 5, end + 4);
        Due.fault(NINE + "ask some r not top;", 5, end + 4);
        Due.fault(NINE + "ask not some r (b and a);", 5, end + 8);
        Due.fault(NINE + "every r not not a < some r not not a;", 5, end + 20);
        Due.fault(NINE + "single s; ask every s top;", 5, end + 14);
    }

    private static void noTenthAtom() {
        Due.sentence("There is one ATOM for all SOME R X of one ROLE with X LIKE (so no 10th)");
        TypeCourt x = Due.told(NINE + "ask some r a; ask every r not a; ask some r not a; ask every r not not b;"
            + "ask every r not bottom; ask every r not (a and b); ask some r not b and not a;");
        Due.is("ATOMS", x.count(5), 9);
        Due.is("rank(511)", x.rank(511), 1);
        Due.is("rank(512)", x.rank(512), -102);
    }

    private static void askedWhereItsConceptEnds() {
        Due.sentence("(5 counts for the NAME, the some, every itself, but is asked where its CONCEPT ends,"
            + " when no TOKEN up to there has another FAULT.)");
        int end = NINE.length();
        // what is not of the CONCEPT comes too late
        Due.fault(NINE + "ask some s a #", 5, end + 4);
        Due.fault(NINE + "ask some s a)", 5, end + 4);
        Due.fault(NINE + "ask some s a", 5, end + 4);
        Due.fault(NINE + "ask some s (a) #", 5, end + 4);
        Due.fault(NINE + "ask some s a and #", 5, end + 4);
        Due.fault(NINE + "ask (some s a and #", 5, end + 5);
        Due.fault(NINE + "ask c and #", 5, end + 4);
        // each other FAULT up to its end comes ahead
        Due.fault(NINE + "ask some s #", 1, end + 11);
        Due.fault(NINE + "ask some 9 a;", 1, end + 9);
        Due.fault(NINE + "ask every s (a #", 1, end + 15);
        Due.fault(NINE + "ask some s (a and b #", 1, end + 20);
        Due.fault(NINE + "ask some s", 2, end + 10);
        Due.fault(NINE + "ask some s (a", 2, end + 13);
        Due.fault(NINE + "ask every s (a;", 2, end + 14);
        Due.fault("single t; single u;" + NINE + "ask some s a;", 3, end + 28);
        Due.fault(NINE + "ask some a b;", 4, end + 9);
        Due.fault(NINE + "ask every s (a and r);", 4, end + 19);
        Due.fault(NINE + "ask some s " + Due.times("not ", 12) + "a;", 3, end + 55);
        // one within it, too, by its own FAULT 5
        Due.fault(NINE + "ask some s (a and c);", 5, end + 18);
        Due.fault(NINE + "ask every s not every r (a or b);", 5, end + 16);
        Due.fault(NINE + "ask some s some r a;", 5, end + 4);
        Due.fault(NINE + "ask some s some r top;", 5, end + 4);
    }

    private static void underItself() {
        Due.sentence("6 under: the second ROLE, if it would come under itself, by this and those ahead of it");
        Due.noFault("under r s; under s t; under r t; under r s;");
        Due.fault("under r s; under s r;", 6, 19);
        Due.fault("under r s; under s t; under t r;", 6, 30);
        Due.fault("under s t; under r s; under t r;", 6, 30);
        Due.fault("under r s; under s t; under t s;", 6, 30);
        Due.noFault("under r t; under s t; under r s;");
        Due.fault("under r s; ask a; a < b; under s r ;", 6, 33);
    }

    private static void underTheFirstOne() {
        Due.sentence("(or is the first one)");
        Due.fault("under r r;", 6, 8);
        Due.fault("under r s; under s s;", 6, 19);
        Due.fault("ask some r a; under r r", 6, 22);
        Due.fault("under r r", 6, 8);
    }

    private static void toldOfByTheOther() {
        Due.sentence("of single, under a ROLE that was told of by the other one");
        Due.fault("single r; under r s;", 6, 16);
        Due.fault("single r; under s r;", 6, 18);
        Due.fault("single r; under r r;", 6, 16);
        Due.fault("single r; under r #", 6, 16);
        Due.fault("under r s; single r;", 6, 18);
        Due.fault("under r s; single s;", 6, 18);
        Due.fault("under r s; under s t; single t;", 6, 29);
        Due.noFault("single r; under s t; single r;");
        Due.noFault("under r s; single t; under r s;");
        Due.noFault("ask some r a; single r;");
        // whichever ROLE it is
        String three = "ask some r some s some t a;";
        int end = three.length();
        for (String one : new String[] {"r", "s", "t"}) {
            for (String other : new String[] {"r", "s", "t"}) {
                String more = one.equals(other) ? one.equals("r") ? "s" : "r" : other;
                Due.fault(three + "single " + one + ";under " + one + " " + more + ";", 6, end + 15);
                Due.fault(three + "single " + one + ";under " + more + " " + one + ";", 6, end + 17);
                Due.fault(three + "under " + one + " " + more + ";single " + one + ";", 6, end + 17);
                Due.fault(three + "under " + one + " " + more + ";single " + more + ";", 6, end + 17);
                String third = "rst".replace(one, "").replace(more, "");
                Due.noFault(three + "under " + one + " " + more + ";single " + third + ";");
                Due.noFault(three + "single " + third + ";under " + one + " " + more + ";");
            }
        }
        // what a book told before, or would have told, does not count
        TypeCourt x = Due.told("single r; under s t;");
        Due.feed(x, "single t; #");
        Due.is("read()", x.read(), -1);
        Due.feed(x, "under r t; under t s;");
        Due.is("read()", x.read(), 0);
        Due.feed(x, "single r; single s; single t;");
        Due.is("read()", x.read(), 0);
    }
}
