/** Promises 6 and 7: count, atom; what is LIKE. */
public final class CountTest {
    public static void main(String[] args) {
        counts();
        emptyBook();
        atoms();
        likes();
        Due.end();
    }

    private static void counts() {
        TypeCourt x = Due.told("b < bottom; a < some r b; c < some r a; ask a; ask c; single s;");
        int[] due = {3, 2, 3, 2, 10, 5, 9, 1, 2, 0, 0, 0};
        for (int what = 0; what < due.length; what++) {
            Due.is("count(" + what + ")", x.count(what), due[what]);
        }
        Due.is("count(-1)", x.count(-1), -103);
        Due.is("count(12)", x.count(12), -103);
        Due.is("count(max)", x.count(Integer.MAX_VALUE), -103);
        Due.is("print", x.print(), 64);
        Due.is("count(11)", x.count(11), 64);
    }

    private static void emptyBook() {
        TypeCourt x = Due.told("");
        int[] due = {0, 0, 0, 0, 0, 0, 1, 1, 0, 0, 0, 0};
        for (int what = 0; what < due.length; what++) {
            Due.is("count(" + what + ") of an empty book", x.count(what), due[what]);
        }
        Due.is("rank(0)", x.rank(0), -1);
        Due.is("rank(1)", x.rank(1), -102);
        TypeCourt y = Due.told("top < bottom; ask top;");
        Due.is("FAIR ones of top < bottom", y.count(6), 0);
        Due.is("STANDING ones of top < bottom", y.count(7), 0);
        Due.is("ROUNDS of top < bottom", y.count(8), 0);
        Due.is("ask(0) of top < bottom", y.ask(0), 0);
    }

    private static void atoms() {
        // the NAMES a, b; then SOME s (a and b), its parts ahead; SOME r not (..); c
        TypeCourt x = Due.told("under r s; ask every r some s (a and b); ask c or b;");
        int[][] due = {{-1, 0}, {-1, 1}, {1, -1}, {0, -1}, {-1, 2}};
        Due.is("count(5)", x.count(5), 5);
        for (int k = 0; k < due.length; k++) {
            Due.is("atom(" + k + ", 0)", x.atom(k, 0), due[k][0]);
            Due.is("atom(" + k + ", 1)", x.atom(k, 1), due[k][1]);
        }
        Due.is("atom(5, 0)", x.atom(5, 0), -102);
        Due.is("atom(-1, 0)", x.atom(-1, 0), -102);
        Due.is("atom(5, 2)", x.atom(5, 2), -102);
        Due.is("atom(0, 2)", x.atom(0, 2), -103);
        Due.is("atom(0, -1)", x.atom(0, -1), -103);
    }

    private static void atomCount(String text, int due) {
        Due.is("ATOMS of " + text, Due.told(text).count(5), due);
    }

    private static void likes() {
        atomCount("ask a; ask (a); ask not a;", 1);
        atomCount("ask some r a; ask some r (a); ask some r ( (a) );", 2);
        atomCount("ask some r a; ask some s a;", 3);
        atomCount("ask some r a; ask every r a;", 3);
        atomCount("ask some r a; ask every r not a;", 2);
        atomCount("ask some r not a; ask every r a;", 2);
        atomCount("ask some r not a; ask every r not not a;", 2);
        atomCount("ask some r not not a; ask some r a;", 3);
        atomCount("ask some r not not a; ask every r not a;", 3);
        atomCount("ask some r not not a; ask every r not not not a;", 2);
        atomCount("ask every r not (a and b); ask some r (a and b);", 3);
        atomCount("ask some r (a and b); ask some r (b and a);", 4);
        atomCount("ask some r (a and b and c); ask some r ((a and b) and c);", 4);
        atomCount("ask some r (a and b and c); ask some r (a and (b and c));", 5);
        atomCount("ask some r (a and b or c); ask some r ((a and b) or c);", 4);
        atomCount("ask some r (a and b); ask some r (a or b);", 4);
        atomCount("ask some r top; ask some r bottom; ask some r not top;", 3);
        atomCount("ask some r some r a; ask some r every r a; ask some r not some r not a;", 6);
    }
}
