/** Promises 8 to 12 and 18: rank, goes, at, ask, isUnder, same. */
public final class KindsTest {
    public static void main(String[] args) {
        ranks();
        goes();
        goesUnder();
        at();
        asks();
        isUnder();
        same();
        Due.end();
    }

    private static void ranks() {
        // ATOMS b, a, SOME r b, c, SOME r a
        TypeCourt x = Due.told("b < bottom; a < some r b; c < some r a;");
        for (int t = 0; t < 32; t++) {
            boolean b = (t & 1) != 0;
            boolean a = (t & 2) != 0;
            boolean someB = (t & 4) != 0;
            boolean c = (t & 8) != 0;
            boolean someA = (t & 16) != 0;
            int due = b || a && !someB || c && !someA ? 0 : someB ? 1 : someA ? 2 : -1;
            Due.is("rank(" + t + ")", x.rank(t), due);
        }
        Due.is("rank(32)", x.rank(32), -102);
        Due.is("rank(-1)", x.rank(-1), -102);
        TypeCourt full = Due.told("ask some r a or some r b or every r a or every r b or some r top"
            + " or some r bottom or some r (a and b);");
        Due.is("rank(511) of nine ATOMS", full.rank(511), 1);
        Due.is("rank(512) of nine ATOMS", full.rank(512), -102);
        Due.is("rank(max) of nine ATOMS", full.rank(Integer.MAX_VALUE), -102);
    }

    private static void goes() {
        // ATOMS a, b, SOME r b, SOME r not a
        TypeCourt x = Due.told("a < some r b; ask every r a; single s;");
        for (int t = 0; t < 16; t++) {
            for (int u = 0; u < 16; u++) {
                boolean b = (u & 2) != 0;
                boolean a = (u & 1) != 0;
                boolean due = ((t & 4) != 0 || !b) && ((t & 8) != 0 || a);
                Due.is("goes(" + t + ", 0, " + u + ")", x.goes(t, 0, u), due ? 1 : 0);
                Due.is("goes(" + t + ", 1, " + u + ")", x.goes(t, 1, u), 1);
            }
        }
        Due.is("goes(16, 0, 0)", x.goes(16, 0, 0), -102);
        Due.is("goes(0, 0, 16)", x.goes(0, 0, 16), -102);
        Due.is("goes(-1, 0, 0)", x.goes(-1, 0, 0), -102);
        Due.is("goes(0, 0, -1)", x.goes(0, 0, -1), -102);
        Due.is("goes(0, 2, 0)", x.goes(0, 2, 0), -103);
        Due.is("goes(0, -1, 0)", x.goes(0, -1, 0), -103);
        Due.is("goes(16, 2, 0)", x.goes(16, 2, 0), -102);
    }

    private static void goesUnder() {
        // ATOMS a, SOME t a; r UNDER t by s
        TypeCourt x = Due.told("under s t; under r s; ask some t a;");
        for (int role = 0; role < 3; role++) {
            Due.is("goes(0, " + role + ", 1)", x.goes(0, role, 1), 0);
            Due.is("goes(2, " + role + ", 1)", x.goes(2, role, 1), 1);
            Due.is("goes(0, " + role + ", 0)", x.goes(0, role, 0), 1);
        }
        // s is not UNDER r
        TypeCourt y = Due.told("under r s; ask some r a;");
        Due.is("goes(0, 0, 1)", y.goes(0, 0, 1), 0);
        Due.is("goes(0, 1, 1)", y.goes(0, 1, 1), 1);
    }

    private static void at() {
        // ATOMS a, b, SOME r not b
        TypeCourt x = Due.told("ask a; ask not a and b; ask every r b or a; ask top; ask bottom; ask some r not b;");
        for (int t = 0; t < 8; t++) {
            boolean a = (t & 1) != 0;
            boolean b = (t & 2) != 0;
            boolean some = (t & 4) != 0;
            boolean[] due = {a, !a && b, !some || a, true, false, some};
            for (int q = 0; q < due.length; q++) {
                Due.is("at(" + q + ", " + t + ")", x.at(q, t), due[q] ? 1 : 0);
            }
        }
        Due.is("at(6, 0)", x.at(6, 0), -102);
        Due.is("at(-1, 0)", x.at(-1, 0), -102);
        Due.is("at(0, 8)", x.at(0, 8), -102);
        Due.is("at(0, -1)", x.at(0, -1), -102);
        // also AT a TYPE that is not FAIR
        Due.is("at(0, 1) of one that is not FAIR", Due.told("a < bottom; ask a;").at(0, 1), 1);
    }

    private static void asked(String text, int... due) {
        TypeCourt x = Due.told(text);
        for (int q = 0; q < due.length; q++) {
            Due.is("ask(" + q + ") of " + text, x.ask(q), due[q]);
        }
        Due.is("ask(" + due.length + ") of " + text, x.ask(due.length), -102);
        Due.is("ask(-1) of " + text, x.ask(-1), -102);
    }

    private static void asks() {
        asked("a < not b; ask a; ask a and b; ask a or b;", 1, 0, 1);
        asked("a = b; ask a and not b; ask b and not a; ask a and b;", 0, 0, 1);
        asked("a < some r a; ask a; a < b; ask a and not b;", 1, 0);
        asked("a < some r b; b < bottom; ask a; ask every r a; ask some r top;", 0, 1, 1);
        asked("ask some r a and every r not a; ask some r a and some r not a;", 0, 1);
        asked("single r; ask some r a and some r not a; ask some r a and some r b;", 0, 1);
        asked("under r s; ask some r a and every s not a; ask some s a and every r not a;", 0, 1);
        asked("ask some r a and every t not a; under s t; under r s;", 0);
        asked("top < some r top; ask top; ask every r bottom;", 1, 0);
        asked("top < some r a; a < every r not a; ask top; ask a;", 0, 0);
        asked("single r; top < some r a; ask every r not a; ask not a; ask every r a;", 0, 1, 1);
    }

    private static void isUnder() {
        TypeCourt x = Due.told("a < b; c = a or b; d < bottom; e < some r d;");
        int[][] due = {
            {1, 1, 1, 0, 0},
            {0, 1, 1, 0, 0},
            {0, 1, 1, 0, 0},
            {1, 1, 1, 1, 1},
            {1, 1, 1, 1, 1},
        };
        for (int a = 0; a < 5; a++) {
            for (int b = 0; b < 5; b++) {
                Due.is("isUnder(" + a + ", " + b + ")", x.isUnder(a, b), due[a][b]);
            }
        }
        Due.is("isUnder(5, 0)", x.isUnder(5, 0), -102);
        Due.is("isUnder(0, 5)", x.isUnder(0, 5), -102);
        Due.is("isUnder(-1, 0)", x.isUnder(-1, 0), -102);
        Due.is("isUnder(0, -1)", x.isUnder(0, -1), -102);
    }

    private static void same() {
        TypeCourt x = Due.told("a < b; ask a; ask a and b; ask b; ask a or b; ask bottom; ask a and not b; ask not a;");
        int[] kinds = {0, 0, 1, 1, 2, 2, 3};
        for (int p = 0; p < 7; p++) {
            for (int q = 0; q < 7; q++) {
                Due.is("same(" + p + ", " + q + ")", x.same(p, q), kinds[p] == kinds[q] ? 1 : 0);
            }
        }
        Due.is("same(7, 0)", x.same(7, 0), -102);
        Due.is("same(0, 7)", x.same(0, 7), -102);
        Due.is("same(-1, 0)", x.same(-1, 0), -102);
        Due.is("same(0, -1)", x.same(0, -1), -102);
    }
}
