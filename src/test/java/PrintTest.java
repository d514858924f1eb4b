/** Promises 19 to 21: print, out, back. */
public final class PrintTest {
    public static void main(String[] args) {
        statements();
        brackets();
        outAndBack();
        longestOut();
        longChains();
        Due.end();
    }

    private static void printed(String text, String due) {
        TypeCourt x = Due.told(text);
        int concepts = x.count(4);
        int atoms = x.count(5);
        Due.is("print() of " + text, x.print(), due.length());
        Due.text("out of " + text, Due.out(x), due);
        // what is printed is read so again
        Due.is("back()", x.back(), due.length());
        Due.is("read() again", x.read(), concepts);
        Due.is("count(5) again", x.count(5), atoms);
        x.print();
        Due.text("printed again", Due.out(x), due);
    }

    private static void statements() {
        printed("", "");
        printed("a<b;a=b;ask a;under r s;single t;", "a < b;\na = b;\nask a;\nunder r s;\nsingle t;\n");
        printed(" single\nt ;ask\n( a );under  r  abcdefgh;", "single t;\nask a;\nunder r abcdefgh;\n");
        printed("ask top;bottom=abcdefg8;", "ask top;\nbottom = abcdefg8;\n");
        printed("ask some r a;some r a<every r a;", "ask some r a;\nsome r a < every r a;\n");
    }

    private static void brackets() {
        printed("ask((a and b)and c);", "ask a and b and c;\n");
        printed("ask a and(b and c);", "ask a and (b and c);\n");
        printed("ask(a or b)or c;", "ask a or b or c;\n");
        printed("ask a or(b or c);", "ask a or (b or c);\n");
        printed("ask(a and b)or(b and c);", "ask a and b or b and c;\n");
        printed("ask(a or b)and(b or c);", "ask (a or b) and (b or c);\n");
        printed("ask a and(b or c)and a;", "ask a and (b or c) and a;\n");
        printed("ask(a or(b and c))or a;", "ask a or b and c or a;\n");
        printed("ask not(not(a));", "ask not not a;\n");
        printed("ask not(a and b)and c;", "ask not (a and b) and c;\n");
        printed("ask(not a)and b or(some r b);", "ask not a and b or some r b;\n");
        printed("ask some r(a or b);ask every r(every r(a and b));", "ask some r (a or b);\nask every r every r (a and b);\n");
        printed("((a))<((a or b));", "a < a or b;\n");
        printed("(a and(b and(c and(a or(b or c)))))=a;", "a and (b and (c and (a or (b or c)))) = a;\n");
        printed("ask((((a or b)and c)or a)and b);", "ask ((a or b) and c or a) and b;\n");
    }

    private static void outAndBack() {
        TypeCourt x = Due.told("ask a;");
        x.print();
        Due.is("out(-1)", x.out(-1), -1);
        Due.is("out(0)", x.out(0), 'a');
        Due.is("out(6)", x.out(6), 10);
        Due.is("out(7)", x.out(7), -1);
        Due.is("out(max)", x.out(Integer.MAX_VALUE), -1);
        Due.feed(x, "# what THE TAPE had is gone");
        Due.is("back()", x.back(), 7);
        Due.is("count(11) after back", x.count(11), 7);
        Due.is("cut(8)", x.cut(8), -103);
        Due.feed(x, "ask b;");
        Due.is("read()", x.read(), 2);
        Due.text("THE OUT stays", Due.out(x), "ask a;\n");
        Due.is("back() again", x.back(), 7);
        Due.is("read()", x.read(), 1);
    }

    private static void longestOut() {
        TypeCourt x = Due.told(Due.times("under r s;", 200));
        Due.is("print()", x.print(), 2200);
        Due.is("out(2199)", x.out(2199), 10);
        Due.is("back()", x.back(), 2000);
        Due.is("cut(2000)", x.cut(2000), 0);
        Due.is("feed", x.feed(0, 0, 0, 0, 0), -104);
        // 181 statements of 11 bytes, and nine bytes of one more
        Due.is("read()", x.read(), -2);
        Due.is("place()", x.place(), 2000);
        TypeCourt y = Due.told(Due.times("single r;", 222));
        Due.is("print()", y.print(), 2220);
    }

    private static void longChains() {
        String and = Due.times(" and a", 99);
        printed("ask a" + and + ";", "ask a" + and + ";\n");
        String or = Due.times(" or (a or a)", 49);
        printed("ask a" + or + ";", "ask a" + or + ";\n");
        String both = Due.times(" and (a or a) or a", 24);
        printed("ask a" + both + ";", "ask a" + both + ";\n");
    }
}
