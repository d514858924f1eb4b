/** The dearest calls, as often as one object may be called: they must come to an end soon. */
public final class BusyTest {
    public static void main(String[] args) {
        String rules = "a < some r b;b < some s a;a or b < some t top;top < some r top or b;"
            + "some t not b < every r not b;b < some t bottom;" + Due.times("a<a;", 6);
        String text = "under r s;" + rules + Due.times("ask a;ask b;", 6);
        TypeCourt x = Due.told(text);
        for (int n = 0; n < 500; n++) {
            x.bones(n % 12);
            x.world(n % 12);
        }
        Due.is("bones(1)", x.bones(1), new Oracle(text).bones(1));
        for (int n = 0; n < 500; n++) {
            new TypeCourt();
            Due.feed(x, text);
            Due.is("read()", x.read() > 0 ? 1 : 0, 1);
        }
        Due.end();
    }
}
