import java.lang.reflect.Method;
import java.nio.charset.StandardCharsets;
import java.nio.file.Files;
import java.nio.file.Path;
import java.util.regex.Matcher;
import java.util.regex.Pattern;

/** The calls that README.md shows, in their order on one object: each answers the number behind it. */
public final class ReadmeTest {
    private static final Pattern CALL = Pattern.compile("twins\\.(\\w+)\\((.*)\\); +// (-?\\d+)(:.*)?");

    public static void main(String[] args) throws Exception {
        HouseTwins twins = new HouseTwins();
        int calls = 0;
        for (String line : Files.readAllLines(Path.of("README.md"), StandardCharsets.UTF_8)) {
            Matcher m = CALL.matcher(line);
            if (m.matches()) {
                calls++;
                Check.due("README.md: " + line, answer(twins, m.group(1), m.group(2)), Long.parseLong(m.group(3)));
            } else {
                Check.due("README.md: a call that can not be read: " + line, line.startsWith("twins.") ? 1 : 0, 0);
            }
        }
        Check.due("README.md shows some calls", calls > 30 ? 1 : 0, 1);
        Check.finish("ReadmeTest");
    }

    private static long answer(HouseTwins twins, String name, String told) throws Exception {
        for (Method m : HouseTwins.class.getDeclaredMethods()) {
            if (m.getName().equals(name)) {
                return ((Number) m.invoke(twins, values(m.getParameterTypes(), told))).longValue();
            }
        }
        throw new IllegalArgumentException("README.md calls " + name);
    }

    private static Object[] values(Class<?>[] types, String told) {
        String[] words = told.isEmpty() ? new String[0] : told.split(", ");
        Object[] all = new Object[words.length];
        for (int p = 0; p < words.length; p++) {
            if (types[p] == boolean.class) {
                all[p] = Boolean.valueOf(words[p]);
            } else if (types[p] == long.class) {
                all[p] = Long.decode(words[p].replace("L", ""));
            } else {
                all[p] = Integer.valueOf(words[p]);
            }
        }
        return all;
    }
}
