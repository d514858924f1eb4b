/** Promise 17: bones. */
public final class BonesTest {
    public static void main(String[] args) {
        bones("a < b; a < c; b < not c; top < d; ask a; ask bottom; ask d;", 7, 0, -1);
        bones("a < bottom; a < bottom; ask a;", 2);
        bones("a < some r b; top < c; b = bottom; ask a; ask a and not a; ask b;", 5, 0, 4);
        bones("a < b; ask top;", -1);
        bones("ask bottom; ask top;", 0, -1);
        // 'under' and 'single' stay
        bones("under r s; a < some r b; c < every s not b; ask a and c;", 3);
        bones("single r; a < some r b; a < some r not b; ask a;", 3);
        bones("a < some r b; a < some r not b; ask a;", -1);
        // of two ways to forbid, the one with the later RULES is left
        bones("a < b; b < bottom; a < c; c < bottom; ask a;", 12);
        bones(Due.times("a<a;", 11) + "a < bottom; ask a;", 1 << 11);
        TypeCourt x = Due.told("a < bottom; ask a;");
        Due.is("bones(1)", x.bones(1), -102);
        Due.is("bones(-1)", x.bones(-1), -102);
        stateStays();
        Due.end();
    }

    private static void bones(String text, int... due) {
        TypeCourt x = Due.told(text);
        for (int q = 0; q < due.length; q++) {
            Due.is("bones(" + q + ") of " + text, x.bones(q), due[q]);
        }
    }

    private static void stateStays() {
        TypeCourt x = Due.told("b < bottom; a < some r b; c < some r a; ask c; ask top;");
        Due.is("world(1)", x.world(1), 1);
        Due.is("bones(0)", x.bones(0), 7);
        Due.is("count(6)", x.count(6), 9);
        Due.is("count(7)", x.count(7), 1);
        Due.is("count(8)", x.count(8), 2);
        Due.is("count(9)", x.count(9), 1);
        Due.is("rank(16)", x.rank(16), 2);
        Due.is("rank(4)", x.rank(4), 1);
        Due.is("ask(0)", x.ask(0), 0);
    }
}
