/** Promises 14 to 16: world, thing, edge. */
public final class WorldTest {
    public static void main(String[] args) {
        smallWorld();
        worldOfSingles();
        worldOfRolesUnder();
        worldsReplaceEachOther();
        manyThings();
        Due.end();
    }

    private static void world(TypeCourt x, int q, int[] things, int[][] edges) {
        Due.is("world(" + q + ")", x.world(q), things.length);
        Due.is("count(9)", x.count(9), things.length);
        Due.is("count(10)", x.count(10), edges.length);
        for (int t = 0; t < things.length; t++) {
            Due.is("thing(" + t + ")", x.thing(t), things[t]);
        }
        for (int e = 0; e < edges.length; e++) {
            for (int what = 0; what < 3; what++) {
                Due.is("edge(" + e + ", " + what + ")", x.edge(e, what), edges[e][what]);
            }
        }
        Due.is("thing at the end", x.thing(things.length), -102);
        Due.is("thing(-1)", x.thing(-1), -102);
        Due.is("edge at the end", x.edge(edges.length, 0), -102);
        Due.is("edge(-1, 0)", x.edge(-1, 0), -102);
        Due.is("edge at the end, 3", x.edge(edges.length, 3), -102);
    }

    private static void smallWorld() {
        // ATOMS a, b, SOME r b, SOME r a, c, SOME s c
        TypeCourt x = Due.told("a < some r b; b < some r a and some s c; ask a; ask not a; ask a and c;");
        world(x, 0, new int[] {5, 42, 16}, new int[][] {{0, 1, 0}, {1, 0, 0}, {1, 2, 1}});
        Due.is("edge(0, 3)", x.edge(0, 3), -103);
        Due.is("edge(0, -1)", x.edge(0, -1), -103);
        world(x, 1, new int[] {0}, new int[][] {});
        world(x, 2, new int[] {21, 42, 5, 16}, new int[][] {{0, 1, 0}, {1, 2, 0}, {1, 3, 1}, {2, 1, 0}});
    }

    private static void worldOfSingles() {
        // ATOMS a, b, SOME r b, c, SOME r c: one EDGE for both
        TypeCourt x = Due.told("single r; a < some r b and some r c; ask a;");
        world(x, 0, new int[] {21, 10}, new int[][] {{0, 1, 0}});
        // ATOMS SOME r top, a, SOME r a
        TypeCourt z = Due.told("single r; ask some r top and some r a;");
        world(z, 0, new int[] {5, 2}, new int[][] {{0, 1, 0}});
        TypeCourt y = Due.told("a < some r b and some r c; ask a;");
        world(y, 0, new int[] {21, 2, 8}, new int[][] {{0, 1, 0}, {0, 2, 0}});
    }

    private static void worldOfRolesUnder() {
        // ATOMS a, SOME s not b (b ahead of it), SOME r top; every s b holds for what r leads to
        TypeCourt x = Due.told("under r s; a < every s b and some r top; ask a;");
        world(x, 0, new int[] {9, 2}, new int[][] {{0, 1, 0}});
    }

    private static void worldsReplaceEachOther() {
        TypeCourt x = Due.told("a < some r a; b < bottom; ask a; ask b;");
        Due.is("world(0)", x.world(0), 1);
        Due.is("edge(0, 1)", x.edge(0, 1), 0);
        Due.is("world(2)", x.world(2), -102);
        Due.is("world(-1)", x.world(-1), -102);
        Due.is("THE WORLD stays", x.count(9), 1);
        Due.is("world(1)", x.world(1), 0);
        Due.is("count(9)", x.count(9), 0);
        Due.is("count(10)", x.count(10), 0);
        Due.is("thing(0)", x.thing(0), -102);
        Due.is("edge(0, 0)", x.edge(0, 0), -102);
        x.world(0);
        Due.feed(x, "ask a;");
        x.read();
        Due.is("THE WORLD is empty after read", x.count(9), 0);
        Due.is("THE WORLD has no EDGE after read", x.count(10), 0);
    }

    /** A row of NAMES, each calling for the next one by another ROLE, and back to the first. */
    private static void manyThings() {
        // ATOMS a, b, SOME r b, c, SOME s c, d, SOME t d, SOME r a
        TypeCourt x = Due.told("a < some r b; b < some s c; c < some t d; d < some r a; ask a; ask a and c;");
        world(x, 0, new int[] {5, 18, 72, 160}, new int[][] {{0, 1, 0}, {1, 2, 1}, {2, 3, 2}, {3, 0, 0}});
        world(x, 1, new int[] {77, 18, 160, 72, 5},
            new int[][] {{0, 1, 0}, {0, 2, 2}, {1, 3, 1}, {2, 4, 0}, {3, 2, 2}, {4, 1, 0}});
    }
}
