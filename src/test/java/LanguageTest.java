import java.lang.reflect.Constructor;
import java.lang.reflect.Field;
import java.lang.reflect.Method;
import java.lang.reflect.Modifier;
import java.nio.charset.StandardCharsets;
import java.nio.file.Files;
import java.nio.file.Path;
import java.util.ArrayDeque;
import java.util.Arrays;
import java.util.Deque;
import java.util.Set;
import java.util.TreeSet;
import java.util.regex.Matcher;
import java.util.regex.Pattern;

/** The document's face, and rules of LANGUAGE.md that can be seen in the class or in its source. */
public final class LanguageTest {
    private static final String FACE = "feed(long) end(int) text() fault() rule(int) kind(int,int) colour(int) mirror(int) work(int,int)"
            + " thing(int,int) put(int,int,int) match(int,int) odd() third(int) after(int,int,int) paid(int,int) owes(int,int) fate(int)"
            + " uneven(int) go() plot(int,int,int,int) gain(int,int,int) begin(int,int,int) waits(int,int) vex(int,int) want(int,int)"
            + " content() plan(int,int) cannot(int) fire(int,int,int) quarrel(int) bend() shops(int,int) saw(int,int,int,boolean) forget()"
            + " histories(int) began(int,int,int) keep(int) back(int) sheet(int,int,int) lay(int,int,int) read(int,int,int,int) torn() count(int)";
    private static final Set<String> CONSTANTS = Set.of("BAD", "STATE", "FULL", "NONE");

    public static void main(String[] args) throws Exception {
        face();
        nestedClasses();
        String source = Files.readString(Path.of("src/main/java/HouseTwins.java"), StandardCharsets.UTF_8);
        String bare = source.replaceAll("(?s)/\\*.*?\\*/", "").replaceAll("//[^\n]*", "").replaceAll("\"[^\"\n]*\"", "\"\"");
        words(source, bare);
        lengths(source);
        Check.finish("LanguageTest");
    }

    private static String signature(Method m) {
        StringBuilder s = new StringBuilder(m.getName()).append('(');
        for (Class<?> type : m.getParameterTypes()) {
            s.append(s.charAt(s.length() - 1) == '(' ? "" : ",").append(type.getName());
        }
        return s.append(')').toString();
    }

    private static void face() {
        Check.due("public final", HouseTwins.class.getModifiers() & (Modifier.PUBLIC | Modifier.FINAL), Modifier.PUBLIC | Modifier.FINAL);
        Set<String> left = new TreeSet<>(Arrays.asList(FACE.split(" ")));
        Set<String> names = new TreeSet<>();
        for (String s : left) {
            names.add(s.substring(0, s.indexOf('(')));
        }
        for (Method m : HouseTwins.class.getDeclaredMethods()) {
            if (Modifier.isPublic(m.getModifiers())) {
                Check.due("public " + signature(m) + " is of the face", left.remove(signature(m)) ? 1 : 0, 1);
                Class<?> due = m.getName().equals("histories") ? long.class : int.class;
                Check.due("what " + m.getName() + " answers", m.getReturnType() == due ? 1 : 0, 1);
                Check.due(m.getName() + " is not static", Modifier.isStatic(m.getModifiers()) ? 1 : 0, 0);
            } else {
                Check.due(m.getName() + " is private", Modifier.isPrivate(m.getModifiers()) ? 1 : 0, 1);
            }
        }
        Check.due("methods that are wanting: " + left, left.size(), 0);
        for (Field f : HouseTwins.class.getDeclaredFields()) {
            boolean told = CONSTANTS.contains(f.getName());
            Check.due("field " + f.getName(), told ? Modifier.isPublic(f.getModifiers()) ? 1 : 0 : Modifier.isPrivate(f.getModifiers()) ? 1 : 0, 1);
        }
        Constructor<?>[] makers = HouseTwins.class.getDeclaredConstructors();
        Check.due("constructors", makers.length, 1);
        Check.due("its parameters", makers[0].getParameterCount(), 0);
        for (Class<?> c : HouseTwins.class.getDeclaredClasses()) {
            for (Method m : c.getDeclaredMethods()) {
                Check.due(c.getSimpleName() + "." + m.getName() + " bears no name of the face", names.contains(m.getName()) ? 1 : 0, 0);
            }
        }
    }

    private static void nestedClasses() {
        Class<?>[] all = HouseTwins.class.getDeclaredClasses();
        Check.due("classes: " + all.length, all.length < 12 ? 1 : 0, 1);
        for (Class<?> c : all) {
            Check.due(c + " is static", Modifier.isStatic(c.getModifiers()) ? 1 : 0, 1);
            Check.due(c + " is not public", Modifier.isPublic(c.getModifiers()) || Modifier.isProtected(c.getModifiers()) ? 1 : 0, 0);
        }
        dueFields(HouseTwins.class);
        for (Class<?> c : all) {
            dueFields(c);
        }
    }

    private static void dueFields(Class<?> c) {
        int own = 0;
        for (Field f : c.getDeclaredFields()) {
            own += Modifier.isStatic(f.getModifiers()) ? 0 : 1;
            Check.due(c + "." + f.getName() + ": static is final", Modifier.isStatic(f.getModifiers()) && !Modifier.isFinal(f.getModifiers()) ? 1 : 0, 0);
        }
        Check.due(c + " has " + own + " fields", own <= 20 ? 1 : 0, 1);
        for (Method m : c.getDeclaredMethods()) {
            Check.due(m + ": parameters", m.getParameterCount() <= 7 ? 1 : 0, 1);
        }
    }

    private static void words(String source, String bare) {
        String[] barred = {"\\bthrow\\b", "\\bthrows\\b", "\\btry\\b", "\\bcatch\\b", "\\bfinally\\b", "\\bsynchronized\\b", "\\bassert\\b",
            "\\bimport\\b", "\\bpackage\\b", "\\bprotected\\b", "->", "::", "\\bstatic\\s*\\{", "@\\w", "\\brecord\\b", "\\bvar\\b",
            "\"\"\\s*\\+", "\\+\\s*\"\"", "\\w+Exact\\b", "\\bObject\\b", "\\bThread\\b", "\\bhashCode\\b", "\\btoString\\b", "\\bdouble\\b", "\\bfloat\\b"};
        for (String word : barred) {
            Check.due("the source has " + word, Pattern.compile(word).matcher(bare).find() ? 1 : 0, 0);
        }
        Matcher library = Pattern.compile("\\b(System|Math|Integer|Long|Arrays)\\.(\\w+)").matcher(bare);
        Set<String> listed = Set.of("arraycopy", "min", "max", "abs", "bitCount", "compare", "floorDiv", "floorMod", "copyOf", "copyOfRange", "fill");
        while (library.find()) {
            Check.due("the library has " + library.group(), listed.contains(library.group(2)) ? 1 : 0, 1);
        }
        for (int p = 0; p < source.length(); p++) {
            char sign = source.charAt(p);
            Check.due("sign " + (int) sign, sign == '\n' || sign >= 32 && sign < 127 ? 1 : 0, 1);
        }
    }

    /** Every method, by its braces, has some sixty lines at most. */
    private static void lengths(String source) {
        Deque<Integer> open = new ArrayDeque<>();
        String[] lines = source.split("\n");
        for (int n = 0; n < lines.length; n++) {
            for (char sign : lines[n].toCharArray()) {
                if (sign == '{') {
                    open.push(n);
                } else if (sign == '}') {
                    int from = open.pop();
                    boolean method = lines[from].matches(".*\\) \\{") && lines[from].matches("\\s+(public|private|static|int|long|void|boolean|[A-Z]\\w*\\().*");
                    Check.due("lines of " + lines[from].trim(), !method || n - from < 65 ? 1 : 0, 1);
                }
            }
        }
    }
}
