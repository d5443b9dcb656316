import java.io.IOException;
import java.lang.reflect.Field;
import java.lang.reflect.Method;
import java.lang.reflect.Modifier;
import java.nio.charset.StandardCharsets;
import java.nio.file.Files;
import java.nio.file.Path;
import java.util.ArrayList;
import java.util.List;
import java.util.Set;
import java.util.TreeSet;
import java.util.regex.Matcher;
import java.util.regex.Pattern;
import java.util.stream.Stream;

/** What of ../shared/LANGUAGE.md can be seen from the source and from the compiled face. */
public final class RulesTest {
    private static final Path SOURCE = Path.of("src/main/java/PawnedHours.java");
    private static final String[] FACE = {
        "int person()", "int put(int,int,int,int)", "int hour(int,int,int)", "int give(int,int)", "int of(int,int)",
        "int needs(int,int)", "int terms(int,int)", "int feed(int,int,int,int,int)", "int end(int)", "int row(int)",
        "int rain()", "int law()", "int orders()", "int fault()", "int stopped()", "int force(int)", "int pawn(int,int)",
        "int redeem(int,int)", "int pass()", "int auction(int,int)", "int undo()", "int met(int,int,int)",
        "int learned(int,int)", "int deep(int)", "int lies(int)", "int forged(int)", "int stray(int,int)",
        "int raise(int,int,int,int)", "int cheapest(int,int)", "int bid(int,int,int)", "int sale(int)",
        "long lasting(int,int,int)", "int years(int,int)", "int drawn(int,int)", "int image(int)", "int back(int)",
        "int count(int)", "int status()"};

    public static void main(String[] args) throws IOException {
        face();
        classesInside();
        staticFields();
        sizes();
        source();
        Check.end();
    }

    private static void rule(String what, boolean kept) {
        Check.due(what, kept ? 1 : 0, 1);
    }

    private static String signature(Method m) {
        StringBuilder text = new StringBuilder(m.getReturnType().getName()).append(' ').append(m.getName()).append('(');
        for (int i = 0; i < m.getParameterCount(); i++) {
            text.append(i == 0 ? "" : ",").append(m.getParameterTypes()[i].getName());
        }
        return text.append(')').toString();
    }

    private static void face() {
        Class<?> c = PawnedHours.class;
        rule("the class is public and final", Modifier.isPublic(c.getModifiers()) && Modifier.isFinal(c.getModifiers()));
        Set<String> open = new TreeSet<>();
        for (Method m : c.getDeclaredMethods()) {
            if (!Modifier.isPrivate(m.getModifiers())) {
                open.add(signature(m));
                rule(m + " is public and no more", m.getModifiers() == Modifier.PUBLIC);
            }
        }
        rule("the face's methods, no more and no less: " + open, open.equals(new TreeSet<>(List.of(FACE))));
        rule("one constructor, public, without parameters", c.getDeclaredConstructors().length == 1
            && c.getDeclaredConstructors()[0].getModifiers() == Modifier.PUBLIC
            && c.getDeclaredConstructors()[0].getParameterCount() == 0);
        for (Field f : c.getDeclaredFields()) {
            rule(f + " is private, but for NONE", f.getName().equals("NONE") || Modifier.isPrivate(f.getModifiers()));
        }
    }

    private static void classesInside() {
        Set<String> names = new TreeSet<>();
        for (String signature : FACE) {
            names.add(signature.replaceAll("^\\w+ |\\(.*", ""));
        }
        Class<?>[] inside = PawnedHours.class.getDeclaredClasses();
        rule("at most twelve classes", inside.length + 1 <= 12);
        for (Class<?> c : inside) {
            rule(c + " is static, neither public nor protected", Modifier.isStatic(c.getModifiers())
                && !Modifier.isPublic(c.getModifiers()) && !Modifier.isProtected(c.getModifiers()));
            for (Method m : c.getDeclaredMethods()) {
                rule(m + " bears no name of the face", !names.contains(m.getName()));
                rule(m + " has seven parameters at most", m.getParameterCount() <= 7);
            }
        }
        for (Method m : PawnedHours.class.getDeclaredMethods()) {
            rule(m + " bears no name of the face, if private",
                Modifier.isPublic(m.getModifiers()) || !names.contains(m.getName()));
            rule(m + " has seven parameters at most", m.getParameterCount() <= 7);
        }
    }

    private static List<Class<?>> allClasses() {
        List<Class<?>> all = new ArrayList<>(List.of(PawnedHours.class.getDeclaredClasses()));
        all.add(PawnedHours.class);
        return all;
    }

    private static void staticFields() {
        Set<Class<?>> kinds = Set.of(int.class, long.class, boolean.class, char.class, String.class,
            int[].class, long[].class, char[].class, byte[].class);
        for (Class<?> c : allClasses()) {
            int own = 0;
            for (Field f : c.getDeclaredFields()) {
                boolean isStatic = Modifier.isStatic(f.getModifiers());
                rule(f + " is final and of a kind that may be static",
                    !isStatic || Modifier.isFinal(f.getModifiers()) && kinds.contains(f.getType()));
                own += isStatic ? 0 : 1;
            }
            rule(c + " has some twenty fields: " + own, own <= 20);
        }
    }

    private static void sizes() throws IOException {
        String name = "";
        int start = 0;
        List<String> lines = Files.readAllLines(SOURCE, StandardCharsets.UTF_8);
        Pattern head = Pattern.compile("^( {4}| {8})(?:\\w[\\w\\[\\]]* )*(\\w+)\\([^;]*\\) \\{$");
        String close = "";
        for (int i = 0; i < lines.size(); i++) {
            Matcher m = head.matcher(lines.get(i));
            if (close.isEmpty() && m.matches()) {
                name = m.group(2);
                start = i;
                close = m.group(1) + "}";
            } else if (!close.isEmpty() && lines.get(i).equals(close)) {
                rule(name + " has some sixty lines: " + (i - start + 1), i - start + 1 <= 60);
                close = "";
            }
        }
        rule("the last method's end was found", close.isEmpty());
    }

    private static void source() throws IOException {
        try (Stream<Path> files = Files.walk(Path.of("src/main"))) {
            rule("one file", files.filter(Files::isRegularFile).count() == 1);
        }
        String text = Files.readString(SOURCE, StandardCharsets.UTF_8);
        String bare = text.replaceAll("(?s)/\\*.*?\\*/", " ").replaceAll("//[^\n]*", " ")
            .replaceAll("\"(?:[^\"\\\\]|\\\\.)*\"", "\"\"").replaceAll("'(?:[^'\\\\]|\\\\.)'", "0");
        String[] refused = {"\\bthrows?\\b", "\\btry\\b", "\\bcatch\\b", "\\bsynchronized\\b", "\\bassert\\b", "->", "::",
            "Exact\\b", "\\bpackage\\b", "\\bstatic\\s*\\{", "\\bprotected\\b", "\\bObject\\b", "\\bSystem\\.(?!arraycopy\\b)",
            "\\bArrays\\.(?!copyOf\\b|copyOfRange\\b|fill\\b)", "\\bMath\\.(?!max\\b|min\\b)", "\\bLong\\b",
            "\\bInteger\\.(?!bitCount\\b)", "\\bimport (?!java\\.util\\.Arrays;)", "\\bvar\\b", "\"\"\\s*\\+", "\\+\\s*\"\"",
            "\\bwhile \\(true\\)", "for \\(;;\\)", "\\bequals\\b", "\\bhashCode\\b", "\\btoString\\b", "\\bThread\\b"};
        for (String pattern : refused) {
            Matcher m = Pattern.compile(pattern).matcher(bare);
            rule("nothing like " + pattern + (m.find() ? ", but: " + m.group() : ""), !m.reset().find());
        }
        rule("signs 1 to 127 alone", text.chars().allMatch(ch -> ch > 0 && ch < 128));
    }
}
