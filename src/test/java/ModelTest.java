import java.util.ArrayList;
import java.util.List;
import java.util.Random;
import java.util.TreeMap;
import java.util.TreeSet;

/**
 * The answers against what statements mean in a graph of things (promises 8, 9, 11 to 17): each
 * WORLD that is shown keeps to THE BOOK, and whatever a made-up graph shows is not denied.
 */
public final class ModelTest {
    /** Things with names, and edges by roles between them. */
    private static final class Graph {
        final List<TreeSet<String>> named = new ArrayList<>();
        final List<Edge> edges = new ArrayList<>();
        final TreeMap<String, TreeSet<String>> above;

        Graph(TreeMap<String, TreeSet<String>> above) {
            this.above = above;
        }

        boolean goesBy(Edge e, String role) {
            return e.role().equals(role) || above.get(e.role()).contains(role);
        }

        boolean holds(Oracle.Concept c, int thing) {
            switch (c.op) {
                case "name": return named.get(thing).contains(c.word);
                case "top": return true;
                case "bottom": return false;
                case "not": return !holds(c.left, thing);
                case "and": return holds(c.left, thing) && holds(c.right, thing);
                case "or": return holds(c.left, thing) || holds(c.right, thing);
                default: break;
            }
            boolean every = c.op.equals("every");
            for (Edge e : edges) {
                if (e.from() == thing && goesBy(e, c.word) && holds(c.left, e.to()) != every) {
                    return !every;
                }
            }
            return every;
        }

        boolean keeps(Oracle.Statement rule, int thing) {
            boolean left = holds(rule.left(), thing);
            boolean right = holds(rule.right(), thing);
            return rule.kind().equals("=") ? left == right : !left || right;
        }

        boolean keepsAll(List<Oracle.Statement> rules) {
            for (Oracle.Statement rule : rules) {
                for (int t = 0; t < named.size(); t++) {
                    if (!keeps(rule, t)) {
                        return false;
                    }
                }
            }
            return true;
        }

        int type(Oracle book, int thing) {
            int type = 0;
            for (int k = 0; k < book.atomKeys.size(); k++) {
                String role = book.atomRoles.get(k);
                boolean set = role == null ? named.get(thing).contains(book.atomKeys.get(k)) : hasOne(book, k, thing);
                type |= set ? 1 << k : 0;
            }
            return type;
        }

        private boolean hasOne(Oracle book, int k, int thing) {
            for (Edge e : edges) {
                if (e.from() == thing && goesBy(e, book.atomRoles.get(k)) && holds(book.atomParts.get(k), e.to())) {
                    return true;
                }
            }
            return false;
        }
    }

    private record Edge(int from, int to, String role) {
    }

    private static int worlds = 0;
    private static int graphs = 0;

    public static void main(String[] args) {
        Random random = new Random(11);
        int many = args.length > 0 ? Integer.parseInt(args[0]) : 2500;
        for (int n = 0; n < many; n++) {
            String text = OracleTest.text(random, false);
            Oracle book = new Oracle(text);
            if (book.fault != 0 || text.length() > 1980) {
                continue;
            }
            int before = Due.wrongSoFar();
            TypeCourt x = Due.told(text);
            TreeMap<String, TreeSet<String>> above = above(book);
            for (int q = 0; q < book.questions.size(); q++) {
                showsWhatItShould(x, book, above, q);
            }
            for (int g = 0; g < 60; g++) {
                Graph graph = madeUp(random, book, above);
                if (graph.keepsAll(book.rules)) {
                    isNotDenied(x, book, graph);
                }
            }
            if (Due.wrongSoFar() != before) {
                System.out.println("in the text of round " + n + ": " + text);
            }
        }
        System.out.println(worlds + " WORLDS, " + graphs + " graphs that keep to their books");
        Due.is("enough WORLDS", worlds > many / 4 ? 1 : 0, 1);
        Due.is("enough graphs", graphs > many ? 1 : 0, 1);
        Due.end();
    }

    private static TreeMap<String, TreeSet<String>> above(Oracle book) {
        TreeMap<String, TreeSet<String>> above = new TreeMap<>();
        for (String r : book.roles) {
            above.put(r, new TreeSet<>());
        }
        for (int n = 0; n < 3; n++) {
            for (Oracle.Statement s : book.statements) {
                if (s.kind().equals("under")) {
                    above.get(s.a()).add(s.b());
                    above.get(s.a()).addAll(List.copyOf(above.get(s.b())));
                }
            }
        }
        return above;
    }

    private static void showsWhatItShould(TypeCourt x, Oracle book, TreeMap<String, TreeSet<String>> above, int q) {
        int things = x.world(q);
        Due.is("a WORLD for QUESTION " + q, things > 0 ? 1 : 0, x.ask(q));
        if (things <= 0) {
            return;
        }
        worlds++;
        Graph graph = new Graph(above);
        for (int t = 0; t < things; t++) {
            TreeSet<String> names = new TreeSet<>();
            for (int k = 0; k < x.count(5); k++) {
                if (x.atom(k, 1) >= 0 && (x.thing(t) >> k & 1) == 1) {
                    names.add(book.names.get(x.atom(k, 1)));
                }
            }
            graph.named.add(names);
        }
        for (int e = 0; e < x.count(10); e++) {
            graph.edges.add(new Edge(x.edge(e, 0), x.edge(e, 1), book.roles.get(x.edge(e, 2))));
        }
        Due.is("QUESTION " + q + " is shown", graph.holds(book.questions.get(q).left(), 0) ? 1 : 0, 1);
        Due.is("the WORLD of " + q + " keeps to THE BOOK", graph.keepsAll(book.rules) ? 1 : 0, 1);
        for (int t = 0; t < things; t++) {
            Due.is("what is AT thing(" + t + ")", graph.type(book, t), x.thing(t));
            Due.is("rank of thing(" + t + ")", x.rank(x.thing(t)), TypeCourt.NONE);
            for (String r : book.singles) {
                int out = 0;
                for (Edge e : graph.edges) {
                    out += e.from() == t && e.role().equals(r) ? 1 : 0;
                }
                Due.is("one EDGE by " + r + " at most", out <= 1 ? 1 : 0, 1);
            }
        }
    }

    /** One to three things; of a 'single' ROLE at most one edge from each. */
    private static Graph madeUp(Random random, Oracle book, TreeMap<String, TreeSet<String>> above) {
        Graph graph = new Graph(above);
        int things = 1 + random.nextInt(3);
        for (int t = 0; t < things; t++) {
            TreeSet<String> names = new TreeSet<>();
            for (String name : book.names) {
                if (random.nextBoolean()) {
                    names.add(name);
                }
            }
            graph.named.add(names);
            for (String r : book.roles) {
                int most = book.singles.contains(r) ? 1 : 2;
                for (int e = random.nextInt(most + 1); e > 0; e--) {
                    graph.edges.add(new Edge(t, random.nextInt(things), r));
                }
            }
        }
        return graph;
    }

    private static void isNotDenied(TypeCourt x, Oracle book, Graph graph) {
        graphs++;
        for (int t = 0; t < graph.named.size(); t++) {
            int type = graph.type(book, t);
            Due.is("rank(" + type + ")", x.rank(type), TypeCourt.NONE);
            for (int q = 0; q < book.questions.size(); q++) {
                boolean holds = graph.holds(book.questions.get(q).left(), t);
                Due.is("at(" + q + ", " + type + ")", x.at(q, type), holds ? 1 : 0);
                if (holds) {
                    Due.is("ask(" + q + ")", x.ask(q), 1);
                    Due.is("bones(" + q + ")", x.bones(q), TypeCourt.NONE);
                }
            }
            for (int a = 0; a < book.names.size(); a++) {
                for (int b = 0; b < book.names.size(); b++) {
                    TreeSet<String> names = graph.named.get(t);
                    if (names.contains(book.names.get(a)) && !names.contains(book.names.get(b))) {
                        Due.is("isUnder(" + a + ", " + b + ")", x.isUnder(a, b), 0);
                    }
                }
            }
        }
        for (Edge e : graph.edges) {
            int from = graph.type(book, e.from());
            int to = graph.type(book, e.to());
            int role = book.roles.indexOf(e.role());
            Due.is("goes(" + from + ", " + role + ", " + to + ")", x.goes(from, role, to), 1);
        }
    }
}
