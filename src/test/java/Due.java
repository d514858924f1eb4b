/** What the tests share: feeding texts, comparing answers, and ending with the right exit code. */
final class Due {
    private static int wrong = 0;
    private static int asked = 0;

    private Due() {
    }

    static void is(String call, int got, int want) {
        asked++;
        if (got != want) {
            wrong++;
            if (wrong <= 40) {
                System.out.println(call + " answered " + got + ", due is " + want);
            }
        }
    }

    static void text(String call, String got, String want) {
        asked++;
        if (!got.equals(want)) {
            wrong++;
            System.out.println(call + " answered\n" + got + "due is\n" + want);
        }
    }

    static int wrongSoFar() {
        return wrong;
    }

    /** Feeds a text behind what THE TAPE has; the tape must have room for it in steps of 20. */
    static void feed(TypeCourt x, String text) {
        int size = 0;
        for (int i = 0; i < text.length(); i += 20) {
            int[] n = new int[5];
            for (int j = 0; j < 20; j++) {
                int c = i + j < text.length() ? text.charAt(i + j) : ' ';
                n[j / 4] = n[j / 4] << 8 | c & 255;
            }
            size = x.feed(n[0], n[1], n[2], n[3], n[4]);
        }
        int rest = text.length() % 20;
        if (rest != 0) {
            x.cut(size - 20 + rest);
        }
    }

    static TypeCourt fed(String text) {
        TypeCourt x = new TypeCourt();
        feed(x, text);
        return x;
    }

    static TypeCourt told(String text) {
        TypeCourt x = fed(text);
        int answer = x.read();
        if (answer < 0) {
            wrong++;
            System.out.println("read() of " + text + " answered " + answer + " at " + x.place());
        }
        return x;
    }

    /** A text's FAULT and its place; fault 0 with the place NONE is a text without one. */
    static void fault(String text, int number, int place) {
        TypeCourt x = fed(text);
        int answer = x.read();
        String shown = text.length() > 120 ? text.substring(0, 120) + ".." : text;
        is("FAULT of " + shown, answer < 0 ? -answer : 0, number);
        is("place of " + shown, x.place(), place);
    }

    static void noFault(String text) {
        fault(text, 0, TypeCourt.NONE);
    }

    static String out(TypeCourt x) {
        StringBuilder s = new StringBuilder();
        int size = x.count(11);
        for (int i = 0; i < size; i++) {
            s.append((char) x.out(i));
        }
        return s.toString();
    }

    static String times(String part, int n) {
        return part.repeat(n);
    }

    static void end() {
        System.out.println(wrong == 0 ? asked + " answers are as due" : wrong + " answers are not as due");
        if (wrong != 0) {
            System.exit(1);
        }
    }
}
