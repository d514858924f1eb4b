import java.util.Arrays;
import java.util.List;
import java.util.Random;

/** Many made-up texts, each with every answer compared with what the Oracle says (promises 4 to 20). */
public final class OracleTest {
    private static final String[] BAD = {"9x", "abcdefghi", "ask", "under", ")", "(", "<", ";", "or", "some", "A", "#", "top"};

    private static int mostRounds = 0;
    private static int mostThings = 0;

    public static void main(String[] args) {
        Random random = new Random(7);
        int whole = 0;
        int[] faults = new int[7];
        TypeCourt x = new TypeCourt();
        Oracle last = null;
        int many = args.length > 0 ? Integer.parseInt(args[0]) : 3000;
        for (int n = 0; n < many; n++) {
            String text = text(random, n % 3 == 0);
            if (text.length() > 1980) {
                continue;
            }
            Oracle due = new Oracle(text);
            // An object takes some books and faulty texts one after the other: nothing of one may stay.
            if (n % 7 == 0) {
                x = new TypeCourt();
                last = null;
            }
            x.cut(0);
            Due.feed(x, text);
            int before = Due.wrongSoFar();
            Due.is("read()", x.read(), due.fault == 0 ? due.concepts : -due.fault);
            Due.is("place()", x.place(), due.place);
            faults[due.fault]++;
            if (due.fault == 0) {
                whole++;
                last = due;
                compare(x, due, random);
            } else if (last != null) {
                Due.is("count(4) of the book before", x.count(4), last.concepts);
                Due.is("count(7) of the book before", x.count(7), last.standing.size());
            }
            if (Due.wrongSoFar() != before) {
                System.out.println("in the text of round " + n + ": " + text);
            }
        }
        System.out.println(whole + " whole books; faults " + Arrays.toString(faults)
            + "; most ROUNDS " + mostRounds + ", THINGS " + mostThings);
        Due.is("enough whole books", whole > many / 5 ? 1 : 0, 1);
        Due.end();
    }

    private static void compare(TypeCourt x, Oracle due, Random random) {
        mostRounds = Math.max(mostRounds, due.rounds);
        int[] counts = {due.names.size(), due.roles.size(), due.rules.size(), due.questions.size(),
            due.concepts, due.atomKeys.size(), due.fair.size(), due.standing.size(), due.rounds, 0, 0};
        for (int w = 0; w < 11; w++) {
            Due.is("count(" + w + ")", x.count(w), counts[w]);
        }
        for (int k = 0; k < due.atomKeys.size(); k++) {
            String role = due.atomRoles.get(k);
            Due.is("atom(" + k + ", 0)", x.atom(k, 0), role == null ? -1 : due.roles.indexOf(role));
            Due.is("atom(" + k + ", 1)", x.atom(k, 1), role == null ? due.names.indexOf(due.atomKeys.get(k)) : -1);
        }
        for (int t = 0; t < due.types; t++) {
            Due.is("rank(" + t + ")", x.rank(t), due.ranks[t]);
            for (int q = 0; q < due.questions.size(); q++) {
                Due.is("at(" + q + ", " + t + ")", x.at(q, t), due.isAt(due.questions.get(q).left(), t) ? 1 : 0);
            }
        }
        for (int n = 0; n < 300; n++) {
            int from = random.nextInt(due.types);
            int to = random.nextInt(due.types);
            for (int r = 0; r < due.roles.size(); r++) {
                Due.is("goes(" + from + ", " + r + ", " + to + ")", x.goes(from, r, to), due.goes(from, due.roles.get(r), to) ? 1 : 0);
            }
        }
        for (int a = 0; a < due.names.size(); a++) {
            for (int b = 0; b < due.names.size(); b++) {
                Due.is("isUnder(" + a + ", " + b + ")", x.isUnder(a, b), due.under(a, b) ? 1 : 0);
            }
            List<Integer> next = due.nextAbove(a);
            for (int i = 0; i < 6; i++) {
                Due.is("next(" + a + ", " + i + ")", x.next(a, i), i < next.size() ? next.get(i) : -1);
            }
        }
        for (int q = 0; q < due.questions.size(); q++) {
            compareQuestion(x, due, q);
        }
        Due.is("print()", x.print(), due.printed().length());
        Due.text("out", Due.out(x), due.printed());
    }

    private static void compareQuestion(TypeCourt x, Oracle due, int q) {
        Due.is("ask(" + q + ")", x.ask(q), due.canBe(q) ? 1 : 0);
        Due.is("bones(" + q + ")", x.bones(q), due.bones(q));
        for (int p = 0; p < due.questions.size(); p++) {
            Due.is("same(" + p + ", " + q + ")", x.same(p, q), due.same(p, q) ? 1 : 0);
        }
        due.world(q);
        mostThings = Math.max(mostThings, due.things.size());
        Due.is("world(" + q + ")", x.world(q), due.things.size());
        Due.is("count(9)", x.count(9), due.things.size());
        Due.is("count(10)", x.count(10), due.edges.size());
        for (int t = 0; t < due.things.size(); t++) {
            Due.is("thing(" + t + ")", x.thing(t), due.things.get(t));
        }
        for (int e = 0; e < due.edges.size(); e++) {
            for (int w = 0; w < 3; w++) {
                Due.is("edge(" + e + ", " + w + ")", x.edge(e, w), due.edges.get(e)[w]);
            }
        }
    }

    /** A wild text has anything in it; a tame one keeps to few words, so that most are whole books. */
    static String text(Random random, boolean wild) {
        StringBuilder s = new StringBuilder();
        int names = wild ? 4 + random.nextInt(3) : 1 + random.nextInt(3);
        int roles = wild ? 2 + random.nextInt(3) : 1 + random.nextInt(2);
        int count = 1 + random.nextInt(wild ? 26 : 9);
        int noise = random.nextInt(3) == 0 ? 40 : 0;
        for (int n = 0; n < count; n++) {
            int depth = random.nextInt(4);
            if (wild && random.nextInt(60) == 0) {
                s.append("ask ").append(Due.times(random.nextBoolean() ? "not " : "(", random.nextInt(14)));
            }
            if (wild && random.nextInt(60) == 0) {
                s.append("ask a").append(Due.times(random.nextBoolean() ? " and a" : " or b", random.nextInt(110))).append(';');
            }
            switch (random.nextInt(10)) {
                case 0: case 1: case 2:
                    s.append("ask ");
                    concept(s, random, names, roles, depth + 1);
                    break;
                case 3:
                    if (random.nextBoolean()) {
                        s.append("under ").append(role(random, roles + 1)).append(' ').append(role(random, roles + 1));
                    } else {
                        s.append("single ").append(role(random, roles));
                    }
                    break;
                default:
                    concept(s, random, names, roles, depth);
                    s.append(random.nextInt(4) == 0 ? " = " : random.nextBoolean() ? " < " : "<");
                    concept(s, random, names, roles, depth);
                    break;
            }
            s.append(random.nextBoolean() ? ";" : " ;\n ");
            if (noise > 0 && random.nextInt(noise) == 0) {
                s.append(BAD[random.nextInt(BAD.length)]);
            }
        }
        if (wild && random.nextInt(4) == 0 && s.length() > 3) {
            s.deleteCharAt(random.nextInt(s.length()));
        }
        return s.toString();
    }

    private static char role(Random random, int roles) {
        return random.nextInt(300) == 0 ? 'a' : (char) ('r' + random.nextInt(roles));
    }

    private static void concept(StringBuilder s, Random random, int names, int roles, int depth) {
        int pick = depth <= 0 ? random.nextInt(3) : 3 + random.nextInt(9);
        if (pick < 2 || pick == 11) {
            s.append(random.nextInt(300) == 0 ? 'r' : (char) ('a' + random.nextInt(names)));
        } else if (pick == 2) {
            s.append(random.nextInt(3) > 0 ? "a" : random.nextBoolean() ? "top" : "bottom");
        } else if (pick == 3 || pick == 4) {
            s.append("not ");
            one(s, random, names, roles, depth);
        } else if (pick < 8) {
            s.append(random.nextBoolean() ? "some " : "every ").append(role(random, roles)).append(' ');
            one(s, random, names, roles, depth);
        } else {
            one(s, random, names, roles, depth);
            s.append(pick == 8 ? " or " : " and ");
            one(s, random, names, roles, depth);
        }
    }

    private static void one(StringBuilder s, Random random, int names, int roles, int depth) {
        boolean brackets = random.nextInt(3) > 0;
        s.append(brackets ? "(" : "");
        concept(s, random, names, roles, depth - 1);
        s.append(brackets ? ")" : "");
    }
}
