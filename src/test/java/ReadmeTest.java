import java.lang.reflect.Method;
import java.nio.file.Files;
import java.nio.file.Path;
import java.util.regex.Matcher;
import java.util.regex.Pattern;

/** The examples of README.md: each call answers what stands behind it. */
public final class ReadmeTest {
    private static final Pattern CALL = Pattern.compile("ring\\.([a-z]+)\\(([^)]*)\\); +// ([-a-z0-9]+)(:.*)?");

    public static void main(String[] args) throws Exception {
        RankedRing ring = null;
        boolean inExample = false;
        int calls = 0;
        for (String line : Files.readAllLines(Path.of("README.md"))) {
            if (line.startsWith("```")) {
                inExample = line.equals("```java");
            } else if (line.equals("RankedRing ring = new RankedRing();")) {
                ring = new RankedRing();
            } else if (inExample) {
                Matcher call = CALL.matcher(line);
                Check.same("an example's line: " + line, call.matches() && ring != null, true);
                Check.same(line, answer(ring, call.group(1), call.group(2)), call.group(3));
                calls++;
            }
        }
        Check.same("there are examples", calls > 0, true);
        Check.end("ReadmeTest");
    }

    private static String answer(RankedRing ring, String name, String list) throws Exception {
        String[] words = list.isEmpty() ? new String[0] : list.split(", ");
        Class<?>[] types = new Class<?>[words.length];
        Object[] values = new Object[words.length];
        for (int i = 0; i < words.length; i++) {
            boolean truth = words[i].equals("true") || words[i].equals("false");
            types[i] = truth ? boolean.class : int.class;
            values[i] = truth ? (Object) Boolean.valueOf(words[i]) : (Object) Integer.decode(words[i]);
        }
        Method method = RankedRing.class.getMethod(name, types);
        return String.valueOf(method.invoke(ring, values));
    }
}
