/** Promises 1 to 3: a new object, feed, cut. */
public final class TapeTest {
    public static void main(String[] args) {
        newObject();
        feedPutsBytesInOrder();
        feedToTheBrim();
        cutKeepsTheFirst();
        Due.end();
    }

    private static void newObject() {
        TypeCourt x = new TypeCourt();
        Due.is("place() of a new one", x.place(), -1);
        Due.is("cut(0) of a new one", x.cut(0), 0);
        Due.is("cut(1) of a new one", x.cut(1), -103);
        Due.is("count(11) of a new one", x.count(11), 0);
        Due.is("out(0) of a new one", x.out(0), -1);
        Due.is("back() of a new one", x.back(), 0);
        noBook(x);
        x.read();
        Due.is("count(9) after an empty book", x.count(9), 0);
        Due.is("thing(0) after an empty book", x.thing(0), -102);
    }

    static void noBook(TypeCourt x) {
        for (int what = -1; what < 14; what++) {
            if (what != 11) {
                Due.is("count(" + what + ") without a BOOK", x.count(what), -101);
            }
        }
        for (int n = -1; n < 2; n++) {
            Due.is("atom without a BOOK", x.atom(n, 5), -101);
            Due.is("rank without a BOOK", x.rank(n), -101);
            Due.is("goes without a BOOK", x.goes(n, 0, 0), -101);
            Due.is("at without a BOOK", x.at(n, 0), -101);
            Due.is("ask without a BOOK", x.ask(n), -101);
            Due.is("isUnder without a BOOK", x.isUnder(n, 0), -101);
            Due.is("next without a BOOK", x.next(n, 0), -101);
            Due.is("world without a BOOK", x.world(n), -101);
            Due.is("thing without a BOOK", x.thing(n), -101);
            Due.is("edge without a BOOK", x.edge(n, 0), -101);
            Due.is("bones without a BOOK", x.bones(n), -101);
            Due.is("same without a BOOK", x.same(n, 0), -101);
        }
        Due.is("print without a BOOK", x.print(), -101);
    }

    private static void feedPutsBytesInOrder() {
        TypeCourt x = new TypeCourt();
        // "abcd", " = e", "fgh;", "ask ", "top;"
        Due.is("feed", x.feed(0x61626364, 0x203D2065, 0x6667683B, 0x61736B20, 0x746F703B), 20);
        Due.is("read", x.read(), 3);
        Due.is("print", x.print(), 22);
        Due.text("out", Due.out(x), "abcd = efgh;\nask top;\n");
        Due.is("feed of bytes over 127", x.feed(-1, 0, 0, 0, 0), 20);
        Due.is("read of bytes over 127", x.read(), -1);
        Due.is("place of bytes over 127", x.place(), 0);
    }

    private static void feedToTheBrim() {
        TypeCourt x = new TypeCourt();
        int blanks = 0x20202020;
        for (int n = 1; n <= 100; n++) {
            Due.is("feed " + n, x.feed(blanks, blanks, blanks, blanks, blanks), 20 * n);
        }
        Due.is("feed 101", x.feed(0, 0, 0, 0, 0), -104);
        Due.is("cut(2000)", x.cut(2000), 0);
        Due.is("cut(1981)", x.cut(1981), 19);
        Due.is("feed at 1981", x.feed(0, 0, 0, 0, 0), -104);
        Due.is("cut(1980)", x.cut(1980), 1);
        Due.is("feed at 1980", x.feed(blanks, blanks, blanks, blanks, blanks), 2000);
        Due.is("read of blanks", x.read(), 0);
        Due.is("cut(1) after read", x.cut(1), -103);
    }

    private static void cutKeepsTheFirst() {
        TypeCourt x = Due.fed("ask a;ask b;#");
        Due.is("cut(-1)", x.cut(-1), -103);
        Due.is("cut(14)", x.cut(14), -103);
        Due.is("cut(max)", x.cut(Integer.MAX_VALUE), -103);
        Due.is("cut(min)", x.cut(Integer.MIN_VALUE), -103);
        Due.is("cut(12)", x.cut(12), 1);
        Due.is("cut(13)", x.cut(13), -103);
        Due.is("cut(6)", x.cut(6), 6);
        Due.feed(x, "ask c;");
        Due.is("read", x.read(), 2);
        x.print();
        Due.text("out", Due.out(x), "ask a;\nask c;\n");
    }
}
