/** Promise 13: next. */
public final class NextTest {
    public static void main(String[] args) {
        chain();
        diamond();
        alike();
        cannotBe();
        wrongNumbers();
        Due.end();
    }

    private static void next(String text, int[]... due) {
        TypeCourt x = Due.told(text);
        for (int a = 0; a < due.length; a++) {
            for (int i = 0; i < due[a].length; i++) {
                Due.is("next(" + a + ", " + i + ") of " + text, x.next(a, i), due[a][i]);
            }
            Due.is("next(" + a + ", " + due[a].length + ") of " + text, x.next(a, due[a].length), -1);
        }
    }

    private static void chain() {
        next("a < b; b < c; a < c;", new int[] {1}, new int[] {2}, new int[] {});
        next("a < c; c < b;", new int[] {1}, new int[] {2}, new int[] {});
    }

    private static void diamond() {
        next("a < b and c; b < d; c < d; d < e;",
            new int[] {1, 2}, new int[] {3}, new int[] {3}, new int[] {4}, new int[] {});
    }

    /** What is UNDER each other does not lie between. */
    private static void alike() {
        next("a < b; b = c; c < d;", new int[] {1, 2}, new int[] {3}, new int[] {3}, new int[] {});
        next("a = b; b < c; ask d;", new int[] {2}, new int[] {2}, new int[] {}, new int[] {});
    }

    /** What cannot be is UNDER all. */
    private static void cannotBe() {
        next("a < bottom; b < c; ask d;", new int[] {1, 3}, new int[] {2}, new int[] {}, new int[] {});
    }

    private static void wrongNumbers() {
        TypeCourt x = Due.told("a < b;");
        Due.is("next(2, 0)", x.next(2, 0), -102);
        Due.is("next(-1, 0)", x.next(-1, 0), -102);
        Due.is("next(0, -1)", x.next(0, -1), -1);
        Due.is("next(0, max)", x.next(0, Integer.MAX_VALUE), -1);
        Due.is("next(0, min)", x.next(0, Integer.MIN_VALUE), -1);
        Due.is("next(2, -1)", x.next(2, -1), -102);
    }
}
