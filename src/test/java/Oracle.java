import java.util.ArrayList;
import java.util.HashMap;
import java.util.List;
import java.util.Map;
import java.util.TreeSet;
import java.util.regex.Matcher;
import java.util.regex.Pattern;

/**
 * The document told a second time, as literally as it can be and with no regard for speed: trees
 * of texts, sets of numbers, and the FAULTS looked for one kind after the other.
 */
final class Oracle {
    static final class Concept {
        final String op;
        final String word;
        final Concept left;
        final Concept right;
        int atom = -1;

        Concept(String op, String word, Concept left, Concept right) {
            this.op = op;
            this.word = word;
            this.left = left;
            this.right = right;
        }

        /** With brackets around everything, so that LIKE is having the same text. */
        String full() {
            switch (op) {
                case "name": return word;
                case "top": case "bottom": return op;
                case "not": return "not{" + left.full() + "}";
                case "some": case "every": return op + " " + word + "{" + left.full() + "}";
                default: return "{" + left.full() + "}" + op + "{" + right.full() + "}";
            }
        }

        private int strength() {
            return op.equals("or") ? 0 : op.equals("and") ? 1 : 2;
        }

        private String atLeast(int strength) {
            return strength() < strength ? "(" + printed() + ")" : printed();
        }

        String printed() {
            switch (op) {
                case "name": return word;
                case "top": case "bottom": return op;
                case "not": return "not " + left.atLeast(2);
                case "some": case "every": return op + " " + word + " " + left.atLeast(2);
                case "and": return left.atLeast(1) + " and " + right.atLeast(2);
                default: return left.atLeast(0) + " or " + right.atLeast(1);
            }
        }
    }

    record Statement(String kind, Concept left, Concept right, String a, String b) {
        String printed() {
            switch (kind) {
                case "<": case "=": return left.printed() + " " + kind + " " + right.printed() + ";\n";
                case "ask": return "ask " + left.printed() + ";\n";
                case "under": return "under " + a + " " + b + ";\n";
                default: return "single " + a + ";\n";
            }
        }
    }

    record Ended(int first, int last, Concept concept) {
    }

    private static final class Stuck extends RuntimeException {
        private static final long serialVersionUID = 1L;
    }

    private static final List<String> KEYS = List.of("ask", "under", "single", "or", "and", "not",
        "some", "every", "top", "bottom");

    // The TOKENS and what the grammar found about each.
    private final List<String> tokens = new ArrayList<>();
    private final List<Integer> places = new ArrayList<>();
    private final Map<Integer, String> uses = new HashMap<>();
    private final Map<Integer, Integer> depths = new HashMap<>();
    private final TreeSet<Integer> ruleStarts = new TreeSet<>();
    private final TreeSet<Integer> askStarts = new TreeSet<>();
    private final TreeSet<Integer> conceptTokens = new TreeSet<>();
    private final List<Ended> ends = new ArrayList<>();
    private int here = 0;

    int fault = 0;
    int place = -1;

    final List<Statement> statements = new ArrayList<>();
    final List<String> names = new ArrayList<>();
    final List<String> roles = new ArrayList<>();
    final List<Statement> rules = new ArrayList<>();
    final List<Statement> questions = new ArrayList<>();
    final List<String> atomKeys = new ArrayList<>();
    final List<Concept> atomParts = new ArrayList<>();
    final List<String> atomRoles = new ArrayList<>();
    private final Map<String, TreeSet<String>> above = new HashMap<>();
    final TreeSet<String> singles = new TreeSet<>();
    int concepts = 0;
    int types = 1;
    TreeSet<Integer> fair;
    TreeSet<Integer> standing;
    int[] ranks;
    int rounds;
    private boolean[][] partAt;

    final List<Integer> things = new ArrayList<>();
    final List<int[]> edges = new ArrayList<>();

    Oracle(String text) {
        takeApart(text);
        int stuck = grammar();
        judge(stuck);
        if (fault == 0) {
            workOut();
        }
    }

    private void takeApart(String text) {
        Matcher m = Pattern.compile("[a-z0-9]+|[^a-z0-9 \\n]", Pattern.DOTALL).matcher(text);
        while (m.find()) {
            tokens.add(m.group());
            places.add(m.start());
        }
        tokens.add("");
        places.add(text.length());
    }

    private boolean isToken(int i) {
        String t = tokens.get(i);
        return t.isEmpty() || t.matches("[a-z][a-z0-9]{0,7}") || "<=;()".contains(t);
    }

    private boolean isFree(String t) {
        return t.matches("[a-z][a-z0-9]{0,7}") && !KEYS.contains(t);
    }

    private String look() {
        return tokens.get(here);
    }

    private void want(String sign) {
        if (!look().equals(sign)) {
            throw new Stuck();
        }
        here++;
    }

    /** Goes as far as the grammar can; the index of the TOKEN where it cannot, or -1. */
    private int grammar() {
        try {
            while (!look().isEmpty()) {
                statement();
            }
            return -1;
        } catch (Stuck s) {
            return here;
        }
    }

    private void statement() {
        switch (look()) {
            case "ask": {
                askStarts.add(here++);
                Concept c = concept(0);
                want(";");
                statements.add(new Statement("ask", c, null, null, null));
                break;
            }
            case "under": {
                here++;
                String a = role("under1");
                String b = role("under2");
                want(";");
                statements.add(new Statement("under", null, null, a, b));
                break;
            }
            case "single": {
                here++;
                String a = role("single");
                want(";");
                statements.add(new Statement("single", null, null, a, null));
                break;
            }
            default: {
                ruleStarts.add(here);
                Concept l = concept(0);
                String sign = look();
                if (!sign.equals("<") && !sign.equals("=")) {
                    throw new Stuck();
                }
                here++;
                Concept r = concept(0);
                want(";");
                statements.add(new Statement(sign, l, r, null, null));
            }
        }
    }

    private String role(String use) {
        if (!isFree(look())) {
            throw new Stuck();
        }
        uses.put(here, use);
        return tokens.get(here++);
    }

    private Concept concept(int depth) {
        int first = here;
        Concept c = all(depth);
        while (look().equals("or")) {
            conceptTokens.add(here++);
            c = ended(first, new Concept("or", null, c, all(depth)));
        }
        return c;
    }

    private Concept all(int depth) {
        int first = here;
        Concept c = one(depth);
        while (look().equals("and")) {
            conceptTokens.add(here++);
            c = ended(first, new Concept("and", null, c, one(depth)));
        }
        return c;
    }

    private Concept one(int depth) {
        int first = here;
        String t = look();
        depths.put(here, depth);
        if (t.equals("(")) {
            here++;
            Concept c = concept(depth + 1);
            want(")");
            return c;
        }
        if (t.equals("not") || t.equals("some") || t.equals("every")) {
            conceptTokens.add(here++);
            String role = t.equals("not") ? null : role(t);
            return ended(first, new Concept(t, role, one(depth + 1), null));
        }
        if (t.equals("top") || t.equals("bottom")) {
            conceptTokens.add(here++);
            return ended(first, new Concept(t, null, null, null));
        }
        if (!isFree(t)) {
            throw new Stuck();
        }
        conceptTokens.add(here);
        uses.put(here++, "name");
        return ended(first, new Concept("name", t, null, null));
    }

    private Concept ended(int first, Concept c) {
        ends.add(new Ended(first, here - 1, c));
        return c;
    }

    private void judge(int stuck) {
        int worst = stuck;
        int number = stuck < 0 ? 0 : isToken(stuck) ? 2 : 1;
        int last = stuck < 0 ? tokens.size() : stuck;
        int ruleCount = 0;
        int askCount = 0;
        TreeSet<String> ordered = new TreeSet<>();
        String low = null;
        for (int i = 0; i < last; i++) {
            TreeSet<Integer> found = new TreeSet<>();
            String t = tokens.get(i);
            if (ruleStarts.contains(i) && ++ruleCount > 12 || askStarts.contains(i) && ++askCount > 12) {
                found.add(3);
            }
            if (conceptTokens.contains(i) && ++concepts > 200) {
                found.add(3);
            }
            if (depths.getOrDefault(i, 0) >= 12 && List.of("not", "some", "every", "(").contains(t)) {
                found.add(3);
            }
            String use = uses.get(i);
            if (use != null) {
                meet(t, use, found);
                if (use.equals("under1")) {
                    low = t;
                }
                if (use.startsWith("under") && singles.contains(t)
                        || use.equals("under2") && (t.equals(low) || aboveOf(t).contains(low))
                        || use.equals("single") && ordered.contains(t)) {
                    found.add(6);
                }
                if (use.equals("under2") && found.isEmpty()) {
                    ordered.add(low);
                    ordered.add(t);
                    order(low, t);
                }
                if (use.equals("single")) {
                    singles.add(t);
                }
            }
            if (!found.isEmpty()) {
                worst = i;
                number = found.first();
                break;
            }
        }
        for (Ended e : ends) {
            if ((number == 0 || e.last() < worst) && !giveAtom(e.concept())) {
                worst = e.first();
                number = 5;
                break;
            }
        }
        fault = number;
        place = number == 0 ? -1 : places.get(worst);
    }

    private void meet(String word, String use, TreeSet<Integer> found) {
        List<String> own = use.equals("name") ? names : roles;
        List<String> other = use.equals("name") ? roles : names;
        if (other.contains(word)) {
            found.add(4);
        } else if (!own.contains(word)) {
            own.add(word);
            if (own.size() > (own == names ? 5 : 3)) {
                found.add(3);
            }
        }
    }

    private TreeSet<String> aboveOf(String role) {
        return above.computeIfAbsent(role, r -> new TreeSet<>());
    }

    private void order(String low, String high) {
        aboveOf(low).add(high);
        for (int n = 0; n < 5; n++) {
            for (String r : List.copyOf(above.keySet())) {
                for (String s : List.copyOf(aboveOf(r))) {
                    aboveOf(r).addAll(List.copyOf(aboveOf(s)));
                }
            }
        }
    }

    private boolean giveAtom(Concept c) {
        String key;
        Concept x = null;
        switch (c.op) {
            case "name":
                key = c.word;
                break;
            case "some":
                x = c.left;
                key = "some " + c.word + " " + x.full();
                break;
            case "every":
                x = c.left.op.equals("not") ? c.left.left : new Concept("not", null, c.left, null);
                key = "some " + c.word + " " + x.full();
                break;
            default:
                return true;
        }
        if (!atomKeys.contains(key)) {
            if (atomKeys.size() == 9) {
                return false;
            }
            atomKeys.add(key);
            atomParts.add(x);
            atomRoles.add(x == null ? null : c.word);
        }
        c.atom = atomKeys.indexOf(key);
        return true;
    }

    /** Nodes made for X alone carry no number of their own: their parts do. */
    boolean isAt(Concept c, int type) {
        switch (c.op) {
            case "top": return true;
            case "bottom": return false;
            case "not": return !isAt(c.left, type);
            case "and": return isAt(c.left, type) && isAt(c.right, type);
            case "or": return isAt(c.left, type) || isAt(c.right, type);
            case "every": return (type >> c.atom) % 2 == 0;
            default: return (type >> c.atom) % 2 == 1;
        }
    }

    private void workOut() {
        for (Statement s : statements) {
            if (s.kind().equals("<") || s.kind().equals("=")) {
                rules.add(s);
            } else if (s.kind().equals("ask")) {
                questions.add(s);
            }
        }
        types = 1 << atomKeys.size();
        partAt = new boolean[atomKeys.size()][types];
        for (int k = 0; k < atomKeys.size(); k++) {
            for (int t = 0; t < types; t++) {
                partAt[k][t] = atomParts.get(k) != null && isAt(atomParts.get(k), t);
            }
        }
        ranks = new int[types];
        fair = fairTo(rules);
        standing = new TreeSet<>(fair);
        rounds = rounds(standing, ranks);
        for (int t : standing) {
            ranks[t] = -1;
        }
    }

    private TreeSet<Integer> fairTo(List<Statement> some) {
        TreeSet<Integer> found = new TreeSet<>();
        for (int t = 0; t < types; t++) {
            boolean ok = true;
            for (Statement s : some) {
                boolean l = isAt(s.left(), t);
                boolean r = isAt(s.right(), t);
                ok &= s.kind().equals("=") ? l == r : r || !l;
            }
            if (ok) {
                found.add(t);
            }
        }
        return found;
    }

    private int rounds(TreeSet<Integer> row, int[] ranks) {
        for (int n = 1; ; n++) {
            List<Integer> gone = new ArrayList<>();
            for (int t : row) {
                for (int k = 0; k < atomKeys.size(); k++) {
                    if (isRoleAtom(t, k) && serving(t, k, row) < 0) {
                        gone.add(t);
                        break;
                    }
                }
            }
            if (gone.isEmpty()) {
                return n - 1;
            }
            for (int t : gone) {
                ranks[t] = n;
            }
            row.removeAll(gone);
        }
    }

    private boolean isRoleAtom(int type, int k) {
        return atomRoles.get(k) != null && (type >> k) % 2 == 1;
    }

    private int serving(int type, int k, TreeSet<Integer> row) {
        String role = atomRoles.get(k);
        for (int to : row) {
            boolean ok = partAt[k][to] && goes(type, role, to);
            if (singles.contains(role)) {
                for (int j = 0; j < atomKeys.size(); j++) {
                    ok &= !(isRoleAtom(type, j) && atomRoles.get(j).equals(role)) || partAt[j][to];
                }
            }
            if (ok) {
                return to;
            }
        }
        return -1;
    }

    boolean goes(int type, String role, int to) {
        for (int k = 0; k < atomKeys.size(); k++) {
            String s = atomRoles.get(k);
            if (s != null && (s.equals(role) || aboveOf(role).contains(s))
                    && (type >> k) % 2 == 0 && partAt[k][to]) {
                return false;
            }
        }
        return true;
    }

    boolean canBe(int q) {
        return least(q, standing) >= 0;
    }

    private int least(int q, TreeSet<Integer> row) {
        for (int t : row) {
            if (isAt(questions.get(q).left(), t)) {
                return t;
            }
        }
        return -1;
    }

    boolean under(int a, int b) {
        int i = atomKeys.indexOf(names.get(a));
        int j = atomKeys.indexOf(names.get(b));
        for (int t : standing) {
            if ((t >> i) % 2 == 1 && (t >> j) % 2 == 0) {
                return false;
            }
        }
        return true;
    }

    List<Integer> nextAbove(int a) {
        List<Integer> found = new ArrayList<>();
        for (int b = 0; b < names.size(); b++) {
            boolean ok = under(a, b) && !under(b, a);
            for (int c = 0; c < names.size(); c++) {
                ok &= !(under(a, c) && under(c, b) && !under(c, a) && !under(b, c));
            }
            if (ok) {
                found.add(b);
            }
        }
        return found;
    }

    void world(int q) {
        things.clear();
        edges.clear();
        if (!canBe(q)) {
            return;
        }
        things.add(least(q, standing));
        for (int n = 0; n < things.size(); n++) {
            TreeSet<String> done = new TreeSet<>();
            int type = things.get(n);
            for (int k = 0; k < atomKeys.size(); k++) {
                String role = atomRoles.get(k);
                if (!isRoleAtom(type, k) || singles.contains(role) && !done.add(role)) {
                    continue;
                }
                int to = serving(type, k, standing);
                if (!things.contains(to)) {
                    things.add(to);
                }
                edges.add(new int[] {n, things.indexOf(to), roles.indexOf(role)});
            }
        }
    }

    int bones(int q) {
        if (canBe(q)) {
            return -1;
        }
        List<Statement> kept = new ArrayList<>(rules);
        int bits = 0;
        for (int r = 0; r < rules.size(); r++) {
            List<Statement> fewer = new ArrayList<>();
            for (Statement s : kept) {
                if (s != rules.get(r)) {
                    fewer.add(s);
                }
            }
            TreeSet<Integer> row = fairTo(fewer);
            rounds(row, new int[types]);
            if (least(q, row) < 0) {
                kept = fewer;
            } else {
                bits |= 1 << r;
            }
        }
        return bits;
    }

    boolean same(int p, int q) {
        for (int t : standing) {
            if (isAt(questions.get(p).left(), t) != isAt(questions.get(q).left(), t)) {
                return false;
            }
        }
        return true;
    }

    String printed() {
        StringBuilder s = new StringBuilder();
        for (Statement one : statements) {
            s.append(one.printed());
        }
        return s.toString();
    }
}
