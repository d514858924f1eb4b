import java.io.IOException;
import java.lang.reflect.Method;
import java.lang.reflect.Modifier;
import java.nio.file.Files;
import java.nio.file.Path;
import java.util.ArrayList;
import java.util.List;
import java.util.TreeSet;
import java.util.regex.Matcher;
import java.util.regex.Pattern;

/** The rules of LANGUAGE.md that a look at the source and at the compiled class can tell. */
public final class LanguageTest {
    private static final String[] BARRED = {"throw", "throws", "try", "catch", "finally", "synchronized",
        "assert", "import", "package", "Object", "Exception", "hashCode", "toString", "volatile",
        "native", "transient", "Thread", "Random", "protected"};

    public static void main(String[] args) throws IOException {
        String source = Files.readString(Path.of("src/main/java/TypeCourt.java"));
        String code = source.replaceAll("(?s)/\\*.*?\\*/", "").replaceAll("//[^\n]*", "");
        for (String word : BARRED) {
            Due.is("uses of " + word, Pattern.compile("\\b" + word + "\\b").matcher(code).find() ? 1 : 0, 0);
        }
        Due.is("lambdas", code.contains("->") ? 1 : 0, 0);
        Due.is("method references", code.contains("::") ? 1 : 0, 0);
        Due.is("Exact", code.contains("Exact(") ? 1 : 0, 0);
        Matcher m = Pattern.compile("\\bSystem\\.(\\w+)").matcher(code);
        while (m.find()) {
            Due.text("of System", m.group(1), "arraycopy");
        }
        face();
        lengths(code);
        Due.end();
    }

    private static void face() {
        TreeSet<String> open = new TreeSet<>();
        for (Method method : TypeCourt.class.getDeclaredMethods()) {
            if (!Modifier.isPrivate(method.getModifiers()) && !method.isSynthetic()) {
                open.add(method.getName() + method.getParameterCount());
            }
        }
        Due.text("the face", String.join(" ", open), "ask1 at2 atom2 back0 bones1 count1 cut1 edge2 feed5"
            + " goes3 isUnder2 next2 out1 place0 print0 rank1 read0 same2 thing1 world1");
        TreeSet<String> names = new TreeSet<>();
        for (String s : open) {
            names.add(s.substring(0, s.length() - 1));
        }
        for (Class<?> inside : TypeCourt.class.getDeclaredClasses()) {
            Due.is(inside + " is static and not public", Modifier.isStatic(inside.getModifiers())
                && !Modifier.isPublic(inside.getModifiers()) ? 1 : 0, 1);
            for (Method method : inside.getDeclaredMethods()) {
                Due.is(inside + "." + method.getName() + " has a name of the face", names.contains(method.getName()) ? 1 : 0, 0);
            }
        }
        long fields = List.of(TypeCourt.class.getDeclaredFields()).stream()
            .filter(f -> Modifier.isPublic(f.getModifiers())).count();
        Due.is("public constants", (int) fields, 5);
        Due.is("few classes", TypeCourt.class.getDeclaredClasses().length < 12 ? 1 : 0, 1);
    }

    /** A method begins with a line that ends in ') {' behind four or eight blanks and a type. */
    private static void lengths(String code) {
        List<String> lines = new ArrayList<>(List.of(code.split("\n")));
        Pattern head = Pattern.compile("^( {4}| {8})(?!if|for|while|switch|\\}| )[\\w\\[\\] <>]+\\(([^)]*)\\) \\{$");
        int methods = 0;
        for (int i = 0; i < lines.size(); i++) {
            Matcher m = head.matcher(lines.get(i));
            if (m.matches()) {
                methods++;
                int end = lines.subList(i, lines.size()).indexOf(m.group(1) + "}");
                Due.is("lines of" + lines.get(i), end > 0 && end <= 60 ? 1 : 0, 1);
                Due.is("parameters of" + lines.get(i), m.group(2).split(",").length <= 7 ? 1 : 0, 1);
            }
        }
        Due.is("methods were found", methods > 90 ? 1 : 0, 1);
    }
}
