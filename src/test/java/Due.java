/** What the tests share: feeding texts, comparing answers, and ending with the right exit code. */
final class Due {
    private static int wrong = 0;
    private static int asked = 0;
    private static String sentence = "";

    private Due() {
    }

    /** The words of the document that the answers from here on stand for. */
    static void sentence(String words) {
        sentence = "[" + words + "] ";
    }

    static void is(String call, int got, int want) {
        asked++;
        if (got != want) {
            wrong++;
            if (wrong <= 40) {
                System.out.println(sentence + call + " answered " + got + ", due is " + want);
            }
        }
    }

    static void text(String call, String got, String want) {
        asked++;
        if (!got.equals(want)) {
            wrong++;
            System.out.println(sentence + call + " answered\n" + got + "due is\n" + want);
        }
    }

    static int wrongSoFar() {
        return wrong;
    }

    /** Feeds a text behind what THE TAPE has; the tape must have room for it in steps of 20. */
    static void feed(TypeCourt x, String text) {
        int size = 0;
        for (int i = 0; i < text.length(); i += 20) {
            int[] n = new int[5];
            for (int j = 0; j < 20; j++) {
                int c = i + j < text.length() ? text.charAt(i + j) : ' ';
                n[j / 4] = n[j / 4] << 8 | c & 255;
            }
            size = x.feed(n[0], n[1], n[2], n[3], n[4]);
        }
        int rest = text.length() % 20;
        if (rest != 0) {
            x.cut(size - 20 + rest);
        }
    }

    static TypeCourt fed(String text) {
        TypeCourt x = new TypeCourt();
        feed(x, text);
        return x;
    }

    static TypeCourt told(String text) {
        TypeCourt x = fed(text);
        int answer = x.read();
        if (answer < 0) {
            wrong++;
            System.out.println(sentence + "read() of " + text + " answered " + answer + " at " + x.place());
        }
        return x;
    }

    /** A text's FAULT and its place; fault 0 with the place NONE is a text without one. */
    static void fault(String text, int number, int place) {
        TypeCourt x = fed(text);
        int answer = x.read();
        String shown = text.length() > 120 ? text.substring(0, 120) + ".." : text;
        is("FAULT of " + shown, answer < 0 ? -answer : 0, number);
        is("place of " + shown, x.place(), place);
    }

    static void noFault(String text) {
        fault(text, 0, TypeCourt.NONE);
    }

    static String out(TypeCourt x) {
        StringBuilder s = new StringBuilder();
        int size = x.count(11);
        for (int i = 0; i < size; i++) {
            s.append((char) x.out(i));
        }
        return s.toString();
    }

    /** All that can be seen of an object without a change, THE TAPE aside. */
    static String state(TypeCourt x) {
        StringBuilder s = new StringBuilder().append("place ").append(x.place()).append(" counts");
        for (int what = 0; what < 12; what++) {
            s.append(' ').append(x.count(what));
        }
        if (x.count(0) == TypeCourt.STATE) {
            return s.append(" out ").append(out(x)).toString();
        }
        s.append("\natoms");
        for (int k = 0; k < x.count(5); k++) {
            s.append(' ').append(x.atom(k, 0)).append('/').append(x.atom(k, 1));
        }
        s.append("\ntypes");
        for (int t = 0; t < 1 << x.count(5); t++) {
            s.append(' ').append(x.rank(t));
            for (int r = 0; r < x.count(1); r++) {
                s.append(x.goes(t, r, 1) == 1 ? "+" : "-");
            }
            for (int q = 0; q < x.count(3); q++) {
                s.append(x.at(q, t));
            }
        }
        s.append("\nnames");
        for (int a = 0; a < x.count(0); a++) {
            for (int b = 0; b < x.count(0); b++) {
                s.append(' ').append(x.isUnder(a, b)).append('/').append(x.next(a, b));
            }
        }
        s.append("\nquestions");
        for (int q = 0; q < x.count(3); q++) {
            s.append(' ').append(x.ask(q)).append('/').append(x.bones(q)).append('/').append(x.same(0, q));
        }
        s.append("\nworld");
        for (int t = 0; t < x.count(9); t++) {
            s.append(' ').append(x.thing(t));
        }
        for (int e = 0; e < x.count(10); e++) {
            s.append(' ').append(x.edge(e, 0)).append('/').append(x.edge(e, 1)).append('/').append(x.edge(e, 2));
        }
        return s.append("\nout ").append(out(x)).toString();
    }

    static String times(String part, int n) {
        return part.repeat(n);
    }

    static void end() {
        System.out.println(wrong == 0 ? asked + " answers are as due" : wrong + " answers are not as due");
        if (wrong != 0) {
            System.exit(1);
        }
    }
}
