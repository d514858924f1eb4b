import java.io.IOException;
import java.lang.reflect.Method;
import java.nio.file.Files;
import java.nio.file.Path;
import java.util.regex.Matcher;
import java.util.regex.Pattern;

/** What README.md shows of the class's use is true: each call there, with the answer behind it. */
public final class ReadmeTest {
    private static final Pattern CALL = Pattern.compile("x\\.(\\w+)\\(([^)]*)\\); *// (-?\\d+)\\b.*");

    public static void main(String[] args) throws Exception {
        TypeCourt x = new TypeCourt();
        int calls = 0;
        for (String line : Files.readString(Path.of("README.md")).split("\n")) {
            Matcher m = CALL.matcher(line);
            if (m.matches()) {
                calls++;
                Due.is("of README.md: " + line, call(x, m.group(1), m.group(2)), Integer.parseInt(m.group(3)));
            } else {
                Due.is("calls without an answer: " + line, line.startsWith("x.") ? 1 : 0, 0);
            }
            if (line.contains("x.print()")) {
                Due.is("what is printed is shown", line.contains(Due.out(x).replace("\n", "\\n")) ? 1 : 0, 1);
            }
        }
        Due.is("calls were found", calls > 10 ? 1 : 0, 1);
        Due.end();
    }

    private static int call(TypeCourt x, String name, String numbers) throws Exception {
        for (Method method : TypeCourt.class.getMethods()) {
            if (method.getName().equals(name)) {
                String[] parts = numbers.isEmpty() ? new String[0] : numbers.split(", ");
                Object[] given = new Object[parts.length];
                for (int i = 0; i < parts.length; i++) {
                    given[i] = Long.decode(parts[i]).intValue();
                }
                return (Integer) method.invoke(x, given);
            }
        }
        throw new IOException("no call " + name);
    }
}
