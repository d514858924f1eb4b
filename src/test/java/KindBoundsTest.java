/** "Terms", part 2: TYPES, AT, FAIR, GOES, STANDING, ROUNDS, RANK, CAN BE, UNDER; a test for each sentence. */
public final class KindBoundsTest {
    private static final String NINE = "ask some r a or some r b or every r a or every r b or some r top"
        + " or some r bottom or some r (a and b);";

    public static void main(String[] args) {
        typesByAtoms();
        whatIsAtAType();
        fairToLess();
        fairToEqual();
        goesByItsOwnAtoms();
        goesByRolesItIsUnder();
        standingAtFirst();
        roundTakesWhatIsNotMet();
        asAtTheRoundsBeginning();
        metByOneThatHasX();
        metByOneToWhichItGoes();
        singleByOneForAll();
        roundsUntilOneTakesNothing();
        rankOfEach();
        canBe();
        underIfEachStandingOne();
        Due.end();
    }

    private static void typesByAtoms() {
        Due.sentence("TYPES are rows of bits, bit k for ATOM k: 0 to 2^ATOMS - 1");
        String[] texts = {"", "ask a;", "ask a and b;", "ask a and b and c;", "ask a and b and c and d;",
            "ask a and b and c and d and e;", "ask a and b and c and d and e and some r a;",
            "ask a and b and c and d and e and some r a and some s a;",
            "ask a and b and c and d and e and some r a and some s a and some t a;", NINE};
        for (int n = 0; n < texts.length; n++) {
            TypeCourt x = Due.told(texts[n]);
            int types = 1 << n;
            Due.is("ATOMS", x.count(5), n);
            Due.is("FAIR ones of " + n + " ATOMS", x.count(6), types);
            Due.is("rank(0) of " + n + " ATOMS", x.rank(0), -1);
            Due.is("is there the last of " + n + " ATOMS", x.rank(types - 1) == -102 ? 0 : 1, 1);
            Due.is("rank(" + types + ") of " + n + " ATOMS", x.rank(types), -102);
            Due.is("rank(-1) of " + n + " ATOMS", x.rank(-1), -102);
            Due.is("at(0, " + types + ")", x.at(0, types), -102);
            Due.is("at(0, last)", n == 0 || x.at(0, types - 1) == 1 ? 1 : 0, 1);
        }
    }

    private static void whatIsAtAType() {
        Due.sentence("What a concept is AT a TYPE: of a NAME, some R C its ATOM's bit; of every R C the other one"
            + " than its ATOM's; not, and, or as they say; top is, bottom is not");
        TypeCourt x = Due.told("ask a; ask some r a; ask every r a; ask not a; ask a and some r a; ask a or some r a;"
            + " ask top; ask bottom; ask not bottom; ask a and not a; ask b; ask not (a or b) or a and b;");
        // ATOMS a, SOME r a, SOME r not a, b
        for (int t = 0; t < 16; t++) {
            boolean a = t % 2 == 1;
            boolean some = (t & 2) != 0;
            boolean b = t >= 8;
            boolean[] due = {a, some, (t & 4) == 0, !a, a && some, a || some, true, false, true, false, b, a == b};
            for (int q = 0; q < 12; q++) {
                Due.is("at(" + q + ", " + t + ")", x.at(q, t), due[q] ? 1 : 0);
            }
        }
        TypeCourt nine = Due.told(NINE + "ask a; ask b; ask some r a; ask some r (a and b); ask every r b;");
        for (int t = 0; t < 512; t++) {
            // ATOMS a, SOME r a, b, SOME r b, not a, not b, top, bottom, a and b
            Due.is("at(1, " + t + ")", nine.at(1, t), t & 1);
            Due.is("at(2, " + t + ")", nine.at(2, t), t >> 2 & 1);
            Due.is("at(3, " + t + ")", nine.at(3, t), t >> 1 & 1);
            Due.is("at(4, " + t + ")", nine.at(4, t), t >> 8);
            Due.is("at(5, " + t + ")", nine.at(5, t), ~t >> 5 & 1);
        }
    }

    private static void fairToLess() {
        Due.sentence("A TYPE is FAIR, if AT it for each RULE C < D D is, or C is not");
        TypeCourt x = Due.told("a < b; c < bottom;");
        for (int t = 0; t < 8; t++) {
            boolean due = ((t & 1) == 0 || (t & 2) != 0) && (t & 4) == 0;
            Due.is("rank(" + t + ")", x.rank(t), due ? -1 : 0);
        }
        Due.is("FAIR ones", x.count(6), 3);
        TypeCourt none = Due.told("top < bottom; ask a and some r a;");
        Due.is("FAIR ones of top < bottom", none.count(6), 0);
        Due.is("rank(0)", none.rank(0), 0);
        Due.is("rank(3)", none.rank(3), 0);
        TypeCourt all = Due.told("bottom < a; a < top; a < a;");
        Due.is("FAIR ones of bottom < a", all.count(6), 2);
        // the last of twelve RULES counts as the first
        TypeCourt last = Due.told(Due.times("a<a;", 11) + "a<bottom;");
        Due.is("rank(1)", last.rank(1), 0);
        Due.is("rank(0)", last.rank(0), -1);
    }

    private static void fairToEqual() {
        Due.sentence("for C = D both are, or none");
        TypeCourt x = Due.told("a = b;");
        int[] due = {-1, 0, 0, -1};
        for (int t = 0; t < 4; t++) {
            Due.is("rank(" + t + ")", x.rank(t), due[t]);
        }
        Due.is("FAIR ones of top = bottom", Due.told("top = bottom;").count(6), 0);
        Due.is("FAIR ones of bottom = bottom", Due.told("bottom = bottom;").count(6), 1);
        Due.is("FAIR ones of a = not a", Due.told("a = not a;").count(6), 0);
        Due.is("FAIR ones of a = top", Due.told("a = top;").count(6), 1);
    }

    private static void goesByItsOwnAtoms() {
        Due.sentence("A TYPE GOES to another one by a ROLE R, if for each ATOM of a ROLE S, R being S ..:"
            + " if its bit is not set in the first TYPE, its X is not AT the second one");
        // ATOMS a, SOME r a, SOME r not a; a is not FAIR
        TypeCourt x = Due.told("a < bottom; ask some r a and every r a; single s;");
        for (int t = 0; t < 8; t++) {
            for (int u = 0; u < 8; u++) {
                boolean due = (u & 1) == 1 ? (t & 2) != 0 : (t & 4) != 0;
                Due.is("goes(" + t + ", 0, " + u + ")", x.goes(t, 0, u), due ? 1 : 0);
                // no ATOM of s, none that could hinder
                Due.is("goes(" + t + ", 1, " + u + ")", x.goes(t, 1, u), 1);
            }
        }
        TypeCourt none = Due.told("single r;");
        Due.is("goes(0, 0, 0) of no ATOMS", none.goes(0, 0, 0), 1);
        // ATOM 0 may be a ROLE's, too
        TypeCourt top = Due.told("ask some r top; single s;");
        for (int t = 0; t < 4; t++) {
            Due.is("goes(" + t / 2 + ", 0, " + t % 2 + ")", top.goes(t / 2, 0, t % 2), t / 2);
            Due.is("goes(" + t / 2 + ", 1, " + t % 2 + ")", top.goes(t / 2, 1, t % 2), 1);
        }
        // ATOMS SOME r top, bottom; SOME s top, bottom; SOME t top, bottom; a, b, SOME r (a and not b)
        TypeCourt high = Due.told("ask some r top and some r bottom and some s top and some s bottom and some t top and some t bottom"
            + " and some r (a and not b);");
        for (int to = 0; to < 512; to++) {
            Due.is("goes(1, 0, " + to + ")", high.goes(1, 0, to), (to >> 6 & 3) == 1 ? 0 : 1);
            Due.is("goes(257, 0, " + to + ")", high.goes(257, 0, to), 1);
            Due.is("goes(0, 0, " + to + ")", high.goes(0, 0, to), 0);
        }
        // ATOM 8 is SOME r (a and b)
        TypeCourt nine = Due.told(NINE);
        Due.is("goes(511, 0, 511)", nine.goes(511, 0, 511), 1);
        Due.is("goes(255, 0, 5)", nine.goes(255, 0, 5), 0);
        Due.is("goes(255, 0, 511)", nine.goes(255, 0, 511), 0);
        Due.is("goes(255, 0, 4)", nine.goes(255, 0, 4), 1);
        Due.is("goes(0, 0, 0)", nine.goes(0, 0, 0), 0);
        Due.is("goes(447, 0, 0) without SOME r top", nine.goes(447, 0, 0), 0);
        Due.is("goes(383, 0, 0) without SOME r bottom", nine.goes(383, 0, 0), 1);
    }

    private static void goesByRolesItIsUnder() {
        Due.sentence("or UNDER it (by one or more 'under' R S, R being the first)");
        // ATOMS a, SOME r a, SOME s a, SOME t a
        String asked = "ask some r a and some s a and some t a;";
        for (String order : new String[] {"under r s; under s t;", "under s t; under r s;"}) {
            TypeCourt x = Due.told("ask a and some r a and some s a and some t a; " + order);
            for (int t = 0; t < 16; t += 2) {
                boolean r = (t & 2) != 0;
                boolean s = (t & 4) != 0;
                boolean far = (t & 8) != 0;
                Due.is(order + " goes(" + t + ", 0, 1)", x.goes(t, 0, 1), r && s && far ? 1 : 0);
                Due.is(order + " goes(" + t + ", 1, 1)", x.goes(t, 1, 1), s && far ? 1 : 0);
                Due.is(order + " goes(" + t + ", 2, 1)", x.goes(t, 2, 1), far ? 1 : 0);
                Due.is(order + " goes(" + t + ", 0, 0)", x.goes(t, 0, 0), 1);
            }
        }
        TypeCourt one = Due.told(asked + "under r s;");
        Due.is("goes(2, 0, 1)", one.goes(2, 0, 1), 0);
        Due.is("goes(6, 0, 1)", one.goes(6, 0, 1), 1);
        Due.is("goes(4, 1, 1)", one.goes(4, 1, 1), 1);
        Due.is("goes(4, 0, 1)", one.goes(4, 0, 1), 0);
        Due.is("goes(8, 2, 1)", one.goes(8, 2, 1), 1);
        TypeCourt both = Due.told(asked + "under r t; under s t;");
        Due.is("goes(10, 0, 1)", both.goes(10, 0, 1), 1);
        Due.is("goes(12, 1, 1)", both.goes(12, 1, 1), 1);
        Due.is("goes(4, 1, 1)", both.goes(4, 1, 1), 0);
    }

    private static void standingAtFirst() {
        Due.sentence("STANDING at first are all FAIR TYPES");
        TypeCourt x = Due.told("a < b; single r; under s t;");
        Due.is("FAIR ones", x.count(6), 3);
        Due.is("STANDING ones", x.count(7), 3);
        Due.is("ROUNDS", x.count(8), 0);
        TypeCourt empty = Due.told("");
        Due.is("FAIR ones of an empty book", empty.count(6), 1);
        Due.is("STANDING ones of an empty book", empty.count(7), 1);
        TypeCourt none = Due.told("top < bottom; some r a < b;");
        Due.is("STANDING ones of none", none.count(7), 0);
        Due.is("ROUNDS of none", none.count(8), 0);
        // some that stand only by each other stand
        TypeCourt circle = Due.told("top < some r top;");
        Due.is("STANDING ones of a circle", circle.count(7), 1);
        Due.is("rank(1)", circle.rank(1), -1);
        Due.is("rank(0)", circle.rank(0), 0);
    }

    private static void roundTakesWhatIsNotMet() {
        Due.sentence("a ROUND takes away each that is not MET: for each ATOM of a ROLE that is set, there must be a STANDING TYPE");
        // ATOMS SOME r bottom: no TYPE has it
        TypeCourt x = Due.told("ask some r bottom;");
        Due.is("rank(1)", x.rank(1), 1);
        Due.is("rank(0)", x.rank(0), -1);
        Due.is("ROUNDS", x.count(8), 1);
        // the lowest and the highest of nine ATOMS, and one of two that fails
        TypeCourt low = Due.told("ask some r bottom or a or b or c or d or e or some s a or some s b or some s c;");
        Due.is("rank(1)", low.rank(1), 1);
        Due.is("rank(510)", low.rank(510), -1);
        TypeCourt high = Due.told("ask a or b or c or d or e or some s a or some s b or some s c or some r bottom;");
        Due.is("rank(256)", high.rank(256), 1);
        Due.is("rank(511)", high.rank(511), 1);
        Due.is("rank(255)", high.rank(255), -1);
        Due.is("STANDING ones", high.count(7), 256);
        TypeCourt two = Due.told("ask some r a; ask some r bottom;");
        Due.is("rank(2)", two.rank(2), -1);
        Due.is("rank(6)", two.rank(6), 1);
        Due.is("rank(4)", two.rank(4), 1);
    }

    /** A text about numbers of four bits: the ATOMS a, b, c, d, then of the 'single' r those for the next number. */
    static String counter(boolean up) {
        String one = up ? "" : "not ";
        String a = one + "a";
        String b = one + "b";
        String c = one + "c";
        return "ask a and b and c and d; single r;"
            + "some r a = not a;"
            + "some r b = b and not " + bracket(a) + " or not b and " + a + ";"
            + "some r c = c and not (" + a + " and " + b + ") or not c and " + a + " and " + b + ";"
            + "some r d = d and not (" + a + " and " + b + " and " + c + ") or not d and " + a + " and " + b + " and " + c + ";"
            + "top < some r top;";
    }

    private static String bracket(String concept) {
        return "(" + concept + ")";
    }

    /** The TYPE of a number in such a text; it has a next one. */
    static int counted(int number, boolean up) {
        int next = number + (up ? 1 : 15) & 15;
        return number | next << 4 | 256;
    }

    private static void asAtTheRoundsBeginning() {
        Due.sentence("(as they were at the ROUND's beginning)");
        for (boolean up : new boolean[] {true, false}) {
            // a number that cannot be takes the one ahead of it away, a ROUND later each
            int end = up ? 0 : 15;
            String barred = up ? "top < a or b or c or d;" : "a and b and c and d < bottom;";
            TypeCourt x = Due.told(counter(up) + barred);
            Due.is("ATOMS", x.count(5), 9);
            Due.is("FAIR ones", x.count(6), 15);
            Due.is("STANDING ones", x.count(7), 0);
            Due.is("ROUNDS", x.count(8), 15);
            for (int n = 0; n < 16; n++) {
                int due = up ? 16 - n & 15 : n + 1 & 15;
                Due.is("rank of the number " + n, x.rank(counted(n, up)), n == end ? 0 : due);
            }
        }
    }

    private static void metByOneThatHasX() {
        Due.sentence("to which it GOES by that ROLE, AT which X is");
        // ATOMS a, b, SOME r a, SOME s not a
        TypeCourt x = Due.told("a < bottom; ask b and some r a; ask every s a;");
        for (int t = 0; t < 16; t++) {
            int due = (t & 1) != 0 ? 0 : (t & 4) != 0 ? 1 : -1;
            Due.is("rank(" + t + ")", x.rank(t), due);
        }
    }

    private static void metByOneToWhichItGoes() {
        Due.sentence("there must be a STANDING TYPE .. to which it GOES by that ROLE");
        TypeCourt x = Due.told("ask some r top; ask some r a or every r a;");
        // ATOMS SOME r top, a, SOME r a, SOME r not a
        for (int t = 0; t < 16; t++) {
            boolean top = (t & 1) != 0;
            boolean a = (t & 4) != 0;
            boolean notA = (t & 8) != 0;
            // with one of both there is SOME r top, and the other way round
            Due.is("rank(" + t + ")", x.rank(t), top == (a || notA) ? -1 : 1);
        }
        // by 'under', too
        TypeCourt y = Due.told("under r s; ask some r a and every s not a;");
        // ATOMS a, SOME r a, SOME s a
        for (int t = 0; t < 8; t++) {
            Due.is("rank(" + t + ")", y.rank(t), (t & 6) == 2 ? 1 : -1);
        }
        TypeCourt z = Due.told("under s r; ask some r a and every s not a;");
        for (int t = 0; t < 8; t++) {
            Due.is("rank(" + t + ")", z.rank(t), (t & 6) == 4 ? 1 : -1);
        }
    }

    private static void singleByOneForAll() {
        Due.sentence("for a 'single' ROLE one for all such ATOMS of it at once");
        // ATOMS a, SOME r a, SOME r not a, SOME s a, SOME s not a
        TypeCourt x = Due.told("ask some r a or every r a or some s a or every s a; single r;");
        for (int t = 0; t < 32; t++) {
            Due.is("rank(" + t + ")", x.rank(t), (t & 6) == 6 ? 1 : -1);
        }
        TypeCourt y = Due.told("single r; a < not b; ask some r a and some r b; ask some r c;");
        // ATOMS a, b, SOME r a, SOME r b, c, SOME r c
        Due.is("ask(0)", y.ask(0), 0);
        Due.is("rank(12)", y.rank(12), 1);
        Due.is("rank(36)", y.rank(36), -1);
        Due.is("rank(40)", y.rank(40), -1);
        Due.is("rank(44)", y.rank(44), 1);
        // whichever ROLE it is, and if ATOM 0 is of it
        TypeCourt s = Due.told("single s; under r t; ask some s a and some s not a; ask some r a and some r not a;");
        Due.is("ask(0)", s.ask(0), 0);
        Due.is("ask(1)", s.ask(1), 1);
        TypeCourt t = Due.told("under r s; single t; ask some t a and every t not a; ask some t a and some t b and not some t (a and b);"
            + "ask some s a and some s b and not some s (a and b);");
        Due.is("ask(0)", t.ask(0), 0);
        Due.is("ask(1)", t.ask(1), 0);
        Due.is("ask(2)", t.ask(2), 1);
        TypeCourt zero = Due.told("single r; ask some r top and some r bottom; ask some r top; ask some r top and some r a;");
        Due.is("ask(0)", zero.ask(0), 0);
        Due.is("ask(1)", zero.ask(1), 1);
        Due.is("ask(2)", zero.ask(2), 1);
        // the others of it must not be AT that one
        TypeCourt z = Due.told("single r; a = b; ask some r a and every r not b;");
        Due.is("ask(0)", z.ask(0), 0);
    }

    private static void roundsUntilOneTakesNothing() {
        Due.sentence("ROUNDS go on until one takes nothing");
        // ATOMS b, a, SOME r b, c, SOME r a, d, SOME r c
        TypeCourt x = Due.told("b < bottom; a < some r b; c < some r a; d < some r c; ask d; ask not d;");
        Due.is("ROUNDS", x.count(8), 3);
        Due.is("ask(0)", x.ask(0), 0);
        Due.is("ask(1)", x.ask(1), 1);
        Due.is("rank(4)", x.rank(4), 1);
        Due.is("rank(16 + 4 + 2)", x.rank(22), 1);
        Due.is("rank(16)", x.rank(16), 2);
        Due.is("rank(64)", x.rank(64), 3);
        TypeCourt none = Due.told("ask some r a;");
        Due.is("ROUNDS", none.count(8), 0);
    }

    private static void rankOfEach() {
        Due.sentence("RANK of a TYPE: 0 if it is not FAIR; n, if it went in the n-th ROUND (from 1 on); NONE if it is STANDING at the end");
        // ATOMS a, SOME r a, SOME r not a
        TypeCourt x = Due.told("a < some r a; some r a < a; top < some r a or every r a; ask every r a;");
        int fair = 0;
        int standing = 0;
        for (int t = 0; t < 8; t++) {
            fair += x.rank(t) == 0 ? 0 : 1;
            standing += x.rank(t) == -1 ? 1 : 0;
        }
        Due.is("FAIR ones", x.count(6), fair);
        Due.is("STANDING ones", x.count(7), standing);
        // what is not FAIR has 0, even if it is not MET either
        TypeCourt y = Due.told("a < bottom; ask a and some r bottom;");
        int[] due = {-1, 0, 1, 0};
        for (int t = 0; t < 4; t++) {
            Due.is("rank(" + t + ")", y.rank(t), due[t]);
        }
    }

    private static void canBe() {
        Due.sentence("A concept CAN BE, if some STANDING TYPE has it");
        TypeCourt x = Due.told("b < bottom; ask some r b; ask not some r b; ask top; ask bottom; ask b; ask a;"
            + " ask every r b; ask a and not a;");
        int[] due = {0, 1, 1, 0, 0, 1, 1, 0};
        for (int q = 0; q < 8; q++) {
            Due.is("ask(" + q + ")", x.ask(q), due[q]);
        }
        TypeCourt none = Due.told("top < some r a; a < bottom; ask top; ask bottom;");
        Due.is("ask(0) of no STANDING one", none.ask(0), 0);
        Due.is("ask(1) of no STANDING one", none.ask(1), 0);
        // only the last TYPE, only the first
        TypeCourt last = Due.told(counter(true) + "ask a and b and c and d; ask not (a or b or c or d);");
        Due.is("ask(1)", last.ask(1), 1);
        Due.is("ask(2)", last.ask(2), 1);
    }

    private static void underIfEachStandingOne() {
        Due.sentence("NAME a is UNDER NAME b, if each STANDING TYPE that has a has b");
        TypeCourt x = Due.told("a < b; c < some r d; d < bottom; ask e;");
        int[][] due = {{1, 1, 0, 0, 0}, {0, 1, 0, 0, 0}, {1, 1, 1, 1, 1}, {1, 1, 1, 1, 1}, {0, 0, 0, 0, 1}};
        for (int a = 0; a < 5; a++) {
            for (int b = 0; b < 5; b++) {
                Due.is("isUnder(" + a + ", " + b + ")", x.isUnder(a, b), due[a][b]);
            }
        }
        TypeCourt none = Due.told("top < bottom; ask a and b;");
        Due.is("isUnder(0, 1) of no STANDING one", none.isUnder(0, 1), 1);
        Due.is("isUnder(1, 0) of no STANDING one", none.isUnder(1, 0), 1);
        // not by a RULE, but by what can be
        TypeCourt y = Due.told("single r; a < some r c and every r d; some r (c and d) < b;");
        Due.is("isUnder(0, b)", y.isUnder(0, 3), 1);
        Due.is("isUnder(b, 0)", y.isUnder(3, 0), 0);
    }
}
