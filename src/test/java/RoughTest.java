import java.util.Random;

/** Any calls with any numbers in any state: none throws, and wrong numbers get the answers they are due. */
public final class RoughTest {
    private static final int[] NUMBERS = {Integer.MIN_VALUE, -200, -1, 0, 1, 2, 3, 4, 5, 8, 11, 12, 31, 32, 63, 64,
        100, 511, 512, 1999, 2000, 2001, Integer.MAX_VALUE};
    private static final String[] TEXTS = {
        "a < some r b; b < some s a; under r s; ask a and b; ask not a; ask bottom;",
        "single r; top < some r top; ask some r a and some r not a; ask every r (a or b);",
        "", "ask", "top < bottom; ask top;", "ask a", "#"};

    public static void main(String[] args) {
        Random random = new Random(3);
        for (int n = 0; n < 300; n++) {
            TypeCourt x = new TypeCourt();
            for (int m = 0; m < 500; m++) {
                if (random.nextInt(20) == 0) {
                    x.cut(0);
                    Due.feed(x, TEXTS[random.nextInt(TEXTS.length)]);
                    x.read();
                }
                call(x, random.nextInt(20), pick(random), pick(random), pick(random));
            }
        }
        Due.end();
    }

    private static int pick(Random random) {
        return random.nextInt(3) == 0 ? random.nextInt() : NUMBERS[random.nextInt(NUMBERS.length)];
    }

    private static void call(TypeCourt x, int which, int a, int b, int c) {
        boolean told = x.count(0) != -101;
        switch (which) {
            case 0: x.feed(a, b, c, a, b); break;
            case 1: x.cut(a); break;
            case 2: x.read(); break;
            case 3: x.place(); break;
            case 4: bad(x.count(a), told || a == 11, a >= 0 && a < 12, -103); break;
            case 5: bad(x.atom(a, b), told, a >= 0 && a < x.count(5), -102); break;
            case 6: bad(x.rank(a), told, isType(x, a), -102); break;
            case 7: bad(x.goes(a, b, c), told, isType(x, a) && isType(x, c), -102); break;
            case 8: bad(x.at(a, b), told, isQuestion(x, a) && isType(x, b), -102); break;
            case 9: bad(x.ask(a), told, isQuestion(x, a), -102); break;
            case 10: bad(x.isUnder(a, b), told, isName(x, a) && isName(x, b), -102); break;
            case 11: bad(x.next(a, b), told, isName(x, a), -102); break;
            case 12: bad(x.world(a), told, isQuestion(x, a), -102); break;
            case 13: bad(x.thing(a), told, a >= 0 && a < x.count(9), -102); break;
            case 14: bad(x.edge(a, b), told, a >= 0 && a < x.count(10), -102); break;
            case 15: bad(x.bones(a), told, isQuestion(x, a), -102); break;
            case 16: bad(x.same(a, b), told, isQuestion(x, a) && isQuestion(x, b), -102); break;
            case 17: bad(x.print(), told, true, 0); break;
            case 18: Due.is("out(" + a + ")", x.out(a) == -1 ? 1 : 0, a >= 0 && a < x.count(11) ? 0 : 1); break;
            default: Due.is("back()", x.back(), Math.min(2000, x.count(11))); break;
        }
    }

    private static boolean isType(TypeCourt x, int t) {
        return t >= 0 && t < 1 << Math.max(0, x.count(5));
    }

    private static boolean isQuestion(TypeCourt x, int q) {
        return q >= 0 && q < x.count(3);
    }

    private static boolean isName(TypeCourt x, int a) {
        return a >= 0 && a < x.count(0);
    }

    private static void bad(int answer, boolean told, boolean known, int due) {
        if (!told) {
            Due.is("without a BOOK", answer, -101);
        } else if (!known) {
            Due.is("of a wrong number", answer, due);
        } else {
            Due.is("of a known number", answer == -101 || answer == -102 ? answer : 0, 0);
        }
    }
}
