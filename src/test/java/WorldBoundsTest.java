/** "Terms", part 3: WORLDS and BONES, and in which order the answers to wrong numbers come; a test for each sentence. */
public final class WorldBoundsTest {
    public static void main(String[] args) {
        thingZeroIsTheLeastStanding();
        thingByThing();
        edgesByAtoms();
        leastStandingToWhichItGoes();
        thingMoreIfItIsNoneYet();
        singleByItsFirstAtomAlone();
        longestRowOfThings();
        worldOfNothing();
        rulesFromZeroOn();
        staysOutWithoutThoseThatAreOut();
        allWorkedOutAnew();
        underAndSingleStay();
        bonesOfNoneAndOfTwelve();
        stateAheadOfUnknown();
        unknownAheadOfOutside();
        nothingChangesThen();
        Due.end();
    }

    private static void world(TypeCourt x, int q, int[] things, int[][] edges) {
        Due.is("world(" + q + ")", x.world(q), things.length);
        Due.is("count(9)", x.count(9), things.length);
        Due.is("count(10)", x.count(10), edges.length);
        for (int t = 0; t < things.length; t++) {
            Due.is("thing(" + t + ")", x.thing(t), things[t]);
        }
        for (int e = 0; e < edges.length; e++) {
            for (int what = 0; what < 3; what++) {
                Due.is("edge(" + e + ", " + what + ")", x.edge(e, what), edges[e][what]);
            }
        }
    }

    private static void thingZeroIsTheLeastStanding() {
        Due.sentence("THING 0 is the least STANDING one AT which it is");
        // ATOMS a, SOME r bottom, b
        TypeCourt x = Due.told("a or some r bottom or b = top; ask not a; ask top; ask a and b; ask b;");
        world(x, 0, new int[] {4}, new int[0][]);
        world(x, 1, new int[] {1}, new int[0][]);
        world(x, 2, new int[] {5}, new int[0][]);
        world(x, 3, new int[] {4}, new int[0][]);
        TypeCourt y = Due.told("ask top; ask a and b and c and d and e;");
        world(y, 0, new int[] {0}, new int[0][]);
        world(y, 1, new int[] {31}, new int[0][]);
    }

    private static void thingByThing() {
        Due.sentence("THINGS are TYPES .. Then, THING by THING");
        // ATOMS a, b, c, SOME r b, SOME s c, SOME r a: the first THING's EDGES all come ahead of the second's
        TypeCourt x = Due.told("ask a and b and c; a < some r b and some s c; b < some r a and not a and not c;"
            + "c < not a; ask a; ask c;");
        world(x, 1, new int[] {25, 34, 4}, new int[][] {{0, 1, 0}, {0, 2, 1}, {1, 0, 0}});
        world(x, 2, new int[] {4}, new int[0][]);
    }

    private static void edgesByAtoms() {
        Due.sentence("for each ATOM of a ROLE that is set, by ATOMS, there is an EDGE by that ROLE");
        // ATOMS a, b, SOME s b, SOME r a: the ROLE told of first has the later ATOM
        TypeCourt x = Due.told("single r; ask a and some s b and some r a; ask some s b; a < not b;");
        // ATOMS a, b, SOME s b, SOME r a
        world(x, 0, new int[] {13, 2, 1}, new int[][] {{0, 1, 1}, {0, 2, 0}});
        world(x, 1, new int[] {4, 2}, new int[][] {{0, 1, 1}});
        // two EDGES to one THING, by one ROLE and by two
        TypeCourt y = Due.told("ask some r a and some r b and some s b; a = b;");
        // ATOMS a, SOME r a, b, SOME r b, SOME s b
        world(y, 0, new int[] {26, 5}, new int[][] {{0, 1, 0}, {0, 1, 0}, {0, 1, 1}});
    }

    private static void leastStandingToWhichItGoes() {
        Due.sentence("to the least STANDING TYPE to which it GOES by that, AT which X is");
        // ATOMS a, b, SOME r a, SOME r not b; a with b hindered by every r b
        TypeCourt x = Due.told("ask a and b; ask some r a and every r b; ask some r a and not every r b;");
        world(x, 1, new int[] {4, 3}, new int[][] {{0, 1, 0}});
        world(x, 2, new int[] {12, 1, 0}, new int[][] {{0, 1, 0}, {0, 2, 0}});
        // the least is one that went
        TypeCourt y = Due.told("ask a and some s bottom; a < some s bottom or b; ask some r a;");
        // ATOMS a, SOME s bottom, b, SOME r a
        world(y, 1, new int[] {8, 5}, new int[][] {{0, 1, 1}});
        // by a ROLE that is UNDER another one
        TypeCourt z = Due.told("under r s; ask some r a and every s b;");
        // ATOMS a, SOME r a, b, SOME s not b
        world(z, 0, new int[] {2, 5}, new int[][] {{0, 1, 0}});
    }

    private static void thingMoreIfItIsNoneYet() {
        Due.sentence("a THING more, if it is none yet");
        // ATOMS a, SOME r a: an EDGE to itself
        TypeCourt x = Due.told("a < some r a; ask a; ask some r a;");
        world(x, 0, new int[] {3}, new int[][] {{0, 0, 0}});
        world(x, 1, new int[] {2, 3}, new int[][] {{0, 1, 0}, {1, 1, 0}});
        // TYPE 0 may be one, too
        TypeCourt y = Due.told("ask some r top;");
        world(y, 0, new int[] {1, 0}, new int[][] {{0, 1, 0}});
        // there and back
        TypeCourt z = Due.told("a = not b; a < some r b; b < some r a; ask a;");
        // ATOMS a, b, SOME r b, SOME r a
        world(z, 0, new int[] {5, 10}, new int[][] {{0, 1, 0}, {1, 0, 0}});
    }

    private static void singleByItsFirstAtomAlone() {
        Due.sentence("(of a 'single' ROLE: by its first such ATOM alone, to the least one for all of them)");
        // ATOMS a, SOME r a, b, SOME s b, c, SOME r c
        String text = "ask some r a and some s b and some r c; ask some r c; ask some s b and some s c;";
        world(Due.told(text + "single r;"), 0, new int[] {42, 17, 4}, new int[][] {{0, 1, 0}, {0, 2, 1}});
        world(Due.told(text), 0, new int[] {42, 1, 4, 16}, new int[][] {{0, 1, 0}, {0, 2, 1}, {0, 3, 0}});
        // the first that is set, be it not the first of the ROLE
        world(Due.told(text + "single r;"), 1, new int[] {32, 16}, new int[][] {{0, 1, 0}});
        // ATOM 0 is SOME r top, and served with it is SOME r a
        world(Due.told("single r; ask some r top and some r a;"), 0, new int[] {5, 2}, new int[][] {{0, 1, 0}});
        // it comes where the first one stands, ahead of that of SOME s a
        world(Due.told("single r; ask some r top and some s a and some r a;"), 0, new int[] {13, 2}, new int[][] {{0, 1, 0}, {0, 1, 1}});
        world(Due.told("ask some r top and some r a;"), 0, new int[] {5, 0, 2}, new int[][] {{0, 1, 0}, {0, 2, 0}});
        // ATOMS a, SOME s a, b, SOME s b: of the second ROLE
        String second = "ask some s a and some s b; ask some r top;";
        world(Due.told("single r; single s;" + second), 0, new int[] {10, 5}, new int[][] {{0, 1, 1}});
        world(Due.told("single r;" + second), 0, new int[] {10, 1, 4}, new int[][] {{0, 1, 1}, {0, 2, 1}});
        // what is 'single' is r alone
        world(Due.told(text + "single s;"), 0, new int[] {42, 1, 4, 16}, new int[][] {{0, 1, 0}, {0, 2, 1}, {0, 3, 0}});
    }

    private static void longestRowOfThings() {
        Due.sentence("THINGS are TYPES (as many as there are)");
        for (boolean up : new boolean[] {true, false}) {
            TypeCourt x = Due.told(KindBoundsTest.counter(up) + "ask not (a or b or c or d); ask a and not b and c and not d;");
            for (int q = 1; q < 3; q++) {
                int first = q == 1 ? 0 : 5;
                int[] things = new int[16];
                int[][] edges = new int[16][];
                for (int n = 0; n < 16; n++) {
                    things[n] = KindBoundsTest.counted(first + (up ? n : 16 - n) & 15, up);
                    edges[n] = new int[] {n, n + 1 & 15, 0};
                }
                world(x, q, things, edges);
            }
        }
    }

    private static void worldOfNothing() {
        Due.sentence("A WORLD for a concept that CAN BE");
        TypeCourt x = Due.told("a < bottom; ask a; ask some r a; ask bottom; ask top;");
        for (int q = 0; q < 3; q++) {
            Due.is("world(3)", x.world(3), 1);
            world(x, q, new int[0], new int[0][]);
            Due.is("thing(0)", x.thing(0), -102);
            Due.is("edge(0, 0)", x.edge(0, 0), -102);
        }
    }

    private static void bones(String text, int... due) {
        TypeCourt x = Due.told(text);
        for (int q = 0; q < due.length; q++) {
            Due.is("bones(" + q + ") of " + text, x.bones(q), due[q]);
        }
    }

    private static void rulesFromZeroOn() {
        Due.sentence("RULES are left out one by one, from RULE 0 on");
        bones("a < bottom; a = bottom; ask a;", 2);
        bones("a < b; b < bottom; a < c; c < bottom; ask a; ask b; ask c; ask a or b;", 12, 2, 8, 14);
        bones("a < bottom; a < b; b < bottom; ask a;", 6);
        bones("a < b; b < bottom; a < bottom; ask a;", 4);
    }

    private static void staysOutWithoutThoseThatAreOut() {
        Due.sentence("each stays out if the concept cannot be without it and those that are out; what is left");
        // each two of the three would do
        bones("a < b; b < not a; a < not b; ask a;", 5);
        bones("a = b; a = not b; a < b; a < not b; ask a; ask top;", 12, 3);
        bones("a < a; top < b; b < bottom; a < a; ask top;", 6);
        bones("top < a; top < b; a < bottom; b < bottom; ask top; ask a; ask a and b;", 10, 4, 8);
    }

    private static void allWorkedOutAnew() {
        Due.sentence("(all worked out anew)");
        bones("b < bottom; a < some r b; c < some r a; ask c; ask a; ask b; ask some r c;", 7, 3, 1, 7);
        bones("top < some r top; a < every r bottom; ask a; ask every r a; ask not a;", 3, 3, -1);
        bones("a < some r b; b < some r c; c < bottom; b < bottom; ask a; ask some r b;", 9, 8);
        // an empty court without its last RULE is full again
        bones("top < bottom; ask top; ask a;", 1, 1);
    }

    private static void underAndSingleStay() {
        Due.sentence("('under', 'single' stay.)");
        bones("under r s; ask some r a and every s not a;", 0);
        bones("ask some r a and every s not a;", -1);
        bones("under r s; a < some r b; a < every s not b; ask a;", 3);
        bones("single r; ask some r a and some r not a;", 0);
        bones("single r; a < some r b; a < some r not b; b < top; ask a;", 3);
    }

    private static void bonesOfNoneAndOfTwelve() {
        Due.sentence("BONES of a concept that CANNOT BE (of no RULE, of twelve)");
        bones("ask bottom; ask top; ask a and not a;", 0, -1, 0);
        bones(Due.times("a < bottom;", 12) + "ask a; ask bottom; ask not a;", 1 << 11, 0, -1);
        bones("top < a or b or c or d or e; a < some r not top; b < some r not top; c < some r not top; d < some r not top;"
            + "e < some r not top; ask top; ask a;", 63, 2);
        // each of twelve bars a part of its own: eight with a, four without
        StringBuilder text = new StringBuilder();
        for (int part = 0; part < 12; part++) {
            text.append(part < 8 ? "" : "not ").append("a and ").append(part % 2 == 0 ? "" : "not ").append("b and ")
                .append(part / 2 % 2 == 0 ? "" : "not ").append("c").append(part >= 8 ? "" : part < 4 ? " and d" : " and not d")
                .append(" < bottom;");
        }
        bones(text + "ask top; ask a; ask not a; ask b and c; ask a and b and c and d;", 4095, 255, 3840, 273, 1);
    }

    private static void stateAheadOfUnknown() {
        Due.sentence("Calls answer, the first of these that fits: STATE (there is no BOOK)");
        TypeCourt x = Due.fed("ask a;");
        int[] numbers = {Integer.MIN_VALUE, -104, -1, 0, 1, 10, 11, 12, 511, 512, Integer.MAX_VALUE};
        for (int n : numbers) {
            for (int m : numbers) {
                Due.is("atom", x.atom(n, m), -101);
                Due.is("goes", x.goes(n, m, n), -101);
                Due.is("goes", x.goes(n, n, m), -101);
                Due.is("at", x.at(n, m), -101);
                Due.is("isUnder", x.isUnder(n, m), -101);
                Due.is("next", x.next(n, m), -101);
                Due.is("edge", x.edge(n, m), -101);
                Due.is("same", x.same(n, m), -101);
            }
            Due.is("count(" + n + ")", x.count(n), n == 11 ? 0 : -101);
            Due.is("rank", x.rank(n), -101);
            Due.is("ask", x.ask(n), -101);
            Due.is("world", x.world(n), -101);
            Due.is("thing", x.thing(n), -101);
            Due.is("bones", x.bones(n), -101);
        }
        Due.is("print", x.print(), -101);
        Due.is("read", x.read(), 1);
        Due.is("ask(0)", x.ask(0), 1);
    }

    private static void unknownAheadOfOutside() {
        Due.sentence("UNKNOWN (no such NAME, QUESTION, RULE, TYPE, THING), OUTSIDE (another number out of its bounds)");
        TypeCourt x = Due.told("a < some r a; ask a;");
        x.world(0);
        int[] wrong = {Integer.MIN_VALUE, -1, 4, 1 << 8, 1 << 16, 1 << 30, Integer.MAX_VALUE};
        for (int n : wrong) {
            for (int m : wrong) {
                Due.is("atom(" + n + ", " + m + ")", x.atom(n, m), -102);
                Due.is("edge(" + n + ", " + m + ")", x.edge(n, m), -102);
                Due.is("goes(" + n + ", " + m + ", 0)", x.goes(n, m, 0), -102);
                Due.is("goes(0, " + m + ", " + n + ")", x.goes(0, m, n), -102);
                Due.is("next(" + n + ", " + m + ")", x.next(n, m), -102);
            }
            Due.is("atom(0, " + n + ")", x.atom(0, n), -103);
            Due.is("edge(0, " + n + ")", x.edge(0, n), -103);
            Due.is("goes(0, " + n + ", 0)", x.goes(0, n, 0), -103);
            Due.is("count(" + n + ")", x.count(n), n == 4 ? 4 : -103);
        }
    }

    private static void nothingChangesThen() {
        Due.sentence("then nothing changes");
        TypeCourt x = Due.told("under r s; a < some r b; c < bottom; ask a; ask c;");
        x.world(0);
        x.print();
        Due.feed(x, "ask d;");
        String before = Due.state(x);
        int[] wrong = {Integer.MIN_VALUE, -1, 1 << 9, 1 << 16, Integer.MAX_VALUE};
        for (int n : wrong) {
            x.cut(n);
            x.count(n);
            x.atom(n, 0);
            x.atom(0, n);
            x.rank(n);
            x.goes(n, 0, 0);
            x.goes(0, n, 0);
            x.goes(0, 0, n);
            x.at(n, 0);
            x.at(0, n);
            x.ask(n);
            x.isUnder(n, 0);
            x.isUnder(0, n);
            x.next(n, 0);
            x.next(0, n);
            Due.is("world(" + n + ")", x.world(n), -102);
            x.thing(n);
            x.edge(n, 0);
            x.edge(0, n);
            x.bones(n);
            x.same(n, 0);
            x.same(0, n);
            x.out(n);
            Due.text("state", Due.state(x), before);
        }
        Due.is("world(2)", x.world(2), -102);
        Due.text("state", Due.state(x), before);
        // THE TAPE has what it had
        Due.is("cut(7)", x.cut(7), -103);
        Due.is("cut(6)", x.cut(6), 0);
        Due.is("read()", x.read(), 1);
        x.print();
        Due.text("out", Due.out(x), "ask d;\n");
    }
}
