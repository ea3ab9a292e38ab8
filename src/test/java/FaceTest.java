import java.lang.reflect.Constructor;
import java.lang.reflect.Field;
import java.lang.reflect.Method;
import java.lang.reflect.Modifier;
import java.nio.file.Files;
import java.nio.file.Path;
import java.util.Arrays;
import java.util.Map;
import java.util.Set;
import java.util.TreeMap;
import java.util.TreeSet;
import java.util.regex.Matcher;
import java.util.regex.Pattern;
import java.util.stream.Collectors;

/** The class's face, and those rules of LANGUAGE.md that can be looked up in the class and in its text. */
public final class FaceTest {
    /** How many ints each method takes; those that answer boolean stand in TRUTHS. */
    private static final Map<String, Integer> FACE = Map.ofEntries(
            Map.entry("column", 3), Map.entry("measure", 2), Map.entry("story", 1), Map.entry("line", 2),
            Map.entry("head", 3), Map.entry("picture", 0), Map.entry("size", 3), Map.entry("paid", 7),
            Map.entry("filler", 2), Map.entry("notice", 2), Map.entry("rival", 2), Map.entry("names", 2),
            Map.entry("put", 5), Map.entry("lift", 1), Map.entry("rule", 3), Map.entry("fill", 1),
            Map.entry("undo", 0), Map.entry("plate", 1), Map.entry("edition", 0), Map.entry("day", 0),
            Map.entry("cell", 3), Map.entry("piece", 3), Map.entry("item", 2), Map.entry("shortOf", 2),
            Map.entry("broken", 2), Map.entry("printed", 2), Map.entry("plated", 3), Map.entry("plateOf", 2),
            Map.entry("bill", 2), Map.entry("about", 1));
    private static final Set<String> TRUTHS = Set.of("column", "measure", "rival", "names", "rule");
    private static final String FORBIDDEN = "\\b(throw|throws|try|catch|finally|synchronized|assert|volatile|"
            + "transient|native|protected|package|Object|Thread|Random|hashCode|equals|toString|\\w+Exact)\\b|->|::|@";

    private static final Pattern METHOD = Pattern.compile("^( {4}| {8})(?! )[\\w\\[\\] ]*?(\\w+)\\(.*\\) \\{$");

    public static void main(String[] args) throws Exception {
        face();
        nested();
        text();
        Due.end();
    }

    private static void face() {
        Class<?> c = PageOne.class;
        Due.yes("the class is public and final", Modifier.isPublic(c.getModifiers()) && Modifier.isFinal(c.getModifiers()));
        Due.is("it has no class above it", c.getSuperclass() == Object.class ? 1 : 0, 1);
        Constructor<?>[] made = c.getDeclaredConstructors();
        Due.is("constructors", made.length, 1);
        Due.yes("its constructor is public, of nothing", Modifier.isPublic(made[0].getModifiers()) && made[0].getParameterCount() == 0);
        Set<String> seen = new TreeSet<>();
        for (Method m : c.getDeclaredMethods()) {
            if (Modifier.isPrivate(m.getModifiers())) {
                Due.no("a private method bears a public name: " + m.getName(), FACE.containsKey(m.getName()));
                continue;
            }
            Due.yes("twice: " + m.getName(), seen.add(m.getName()));
            Due.is(m.getName() + ": modifiers", m.getModifiers(), Modifier.PUBLIC);
            Due.is(m.getName() + ": parameters", m.getParameterCount(), FACE.getOrDefault(m.getName(), -1));
            Due.yes(m.getName() + ": ints", Arrays.stream(m.getParameterTypes()).allMatch(t -> t == int.class));
            Due.yes(m.getName() + ": answer", m.getReturnType() == (TRUTHS.contains(m.getName()) ? boolean.class : int.class));
        }
        Due.is("methods of the face", seen.size(), FACE.size());
        for (Field f : c.getDeclaredFields()) {
            boolean isNone = f.getName().equals("NONE");
            Due.is(f.getName() + ": public", Modifier.isPublic(f.getModifiers()) ? 1 : 0, isNone ? 1 : 0);
            Due.yes(f.getName() + ": private", isNone || Modifier.isPrivate(f.getModifiers()));
        }
    }

    private static void nested() {
        Class<?>[] inside = PageOne.class.getDeclaredClasses();
        Due.yes("at most twelve classes", inside.length + 1 <= 12);
        fields(PageOne.class);
        parameters(PageOne.class);
        for (Class<?> c : inside) {
            Due.yes(c.getName() + " is static", Modifier.isStatic(c.getModifiers()));
            Due.no(c.getName() + " is no part of the face", Modifier.isPublic(c.getModifiers()) || Modifier.isProtected(c.getModifiers()));
            fields(c);
            parameters(c);
            for (Method m : c.getDeclaredMethods()) {
                Due.no("a method inside bears a public name: " + m.getName(), FACE.containsKey(m.getName()));
            }
        }
    }

    private static void parameters(Class<?> c) {
        for (Method m : c.getDeclaredMethods()) {
            Due.yes(m.getName() + ": at most seven parameters", m.getParameterCount() <= 7);
        }
        for (Constructor<?> made : c.getDeclaredConstructors()) {
            Due.yes(c.getName() + ": made of at most seven", made.getParameterCount() <= 7);
        }
    }

    private static void fields(Class<?> c) {
        int own = 0;
        for (Field f : c.getDeclaredFields()) {
            if (Modifier.isStatic(f.getModifiers())) {
                Due.yes(f.getName() + ": a static field is final", Modifier.isFinal(f.getModifiers()));
                Due.yes(f.getName() + ": a constant is an int", f.getType() == int.class);
            } else {
                own++;
                Due.yes(f.getName() + ": a type that the rules leave", isPlain(f.getType()));
            }
        }
        Due.yes(c.getName() + ": at most twenty fields", own <= 20);
    }

    /** Ints, truths, the classes of the file, and rows of these; no rows of rows. */
    private static boolean isPlain(Class<?> type) {
        Class<?> one = type.isArray() ? type.getComponentType() : type;
        return one == int.class || one == boolean.class || one.getNestHost() == PageOne.class;
    }

    private static void text() throws Exception {
        String all = Files.readString(Path.of("src/main/java/PageOne.java"));
        Due.yes("signs 1 to 127", all.chars().allMatch(ch -> ch >= 1 && ch <= 127));
        String bare = all.replaceAll("(?s)/\\*.*?\\*/", "").replaceAll("//[^\\n]*", "");
        Matcher m = Pattern.compile(FORBIDDEN).matcher(bare);
        while (m.find()) {
            Due.is("a word that the rules leave out: " + m.group(), 1, 0);
        }
        Set<String> imports = bare.lines().filter(l -> l.startsWith("import ")).collect(Collectors.toSet());
        Due.yes("imports", imports.equals(Set.of("import java.util.Arrays;")));
        Due.no("System is there for arraycopy", Pattern.compile("System\\.(?!arraycopy)").matcher(bare).find());
        Due.no("Arrays is there for fill", Pattern.compile("Arrays\\.(?!fill)").matcher(bare.replace("java.util.Arrays", "")).find());
        Due.no("no texts, so none are joined or compared", bare.contains("\"") || bare.contains("String"));
        Due.no("no casts", Pattern.compile("\\((int|long|short|byte|char|double|float|[A-Z]\\w*)\\) ?[\\w(]").matcher(bare).find());
        Due.no("no class without a name", Pattern.compile("new \\w+(\\[\\])?\\([^;]*\\) ?\\{").matcher(bare).find());
        Due.no("no class within a method", Pattern.compile("(?m)^ {8,}.*\\b(class|interface|enum|record) ").matcher(bare).find());
        Due.no("no static block", Pattern.compile("static \\{").matcher(bare).find());
        Due.no("divisors are constants", Pattern.compile("[/%] (?!MOST_LINES\\b)").matcher(bare).find());
        longest(bare);
        loops(bare);
        depths(bare);
    }

    /** Loops count up to a bound, or go along a chain of acts; there are no others. */
    private static void loops(String bare) {
        Due.no("no while, no do", Pattern.compile("\\b(while|do)\\b").matcher(bare).find());
        Matcher m = Pattern.compile("\\bfor \\(.*").matcher(bare);
        Pattern counts = Pattern.compile("for \\(int (\\w+) = [^;]+; \\1 <=? [^;]+; \\1\\+\\+\\) \\{");
        while (m.find()) {
            boolean chain = m.group().equals("for (Act part = act; part != null; part = part.ahead) {");
            Due.yes("a loop whose end is seen: " + m.group(), chain || counts.matcher(m.group()).matches());
        }
    }

    /** Methods of one name are taken as one, so that what is counted is never less than what can happen. */
    private static void depths(String bare) {
        Map<String, Set<String>> calls = new TreeMap<>();
        String[] lines = bare.split("\n");
        for (int i = 0; i < lines.length; i++) {
            Matcher head = METHOD.matcher(lines[i]);
            if (!head.find() || lines[i].matches("\\s*(if|for|while|switch|\\} else).*")) {
                continue;
            }
            Set<String> called = calls.computeIfAbsent(head.group(2), n -> new TreeSet<>());
            for (int k = i + 1; k < lines.length && !lines[k].equals(head.group(1) + "}"); k++) {
                Matcher call = Pattern.compile("(?<!Arrays\\.)\\b([A-Za-z]\\w*)\\(").matcher(lines[k]);
                while (call.find()) {
                    called.add(call.group(1));
                }
            }
        }
        constructors(calls);
        Due.yes("the methods were found", calls.keySet().containsAll(FACE.keySet()) && calls.containsKey("PageOne"));
        for (String name : calls.keySet()) {
            int deep = depth(name, calls, 0);
            Due.yes("calls go " + deep + " deep: " + name, deep <= 8);
        }
    }

    /** A constructor calls nothing that another class could override. */
    private static void constructors(Map<String, Set<String>> calls) {
        Set<String> names = new TreeSet<>(Set.of("PageOne"));
        for (Class<?> c : PageOne.class.getDeclaredClasses()) {
            names.add(c.getSimpleName());
        }
        Set<String> free = new TreeSet<>(names);
        free.addAll(Set.of("super", "isWithin"));
        for (String name : names) {
            Due.yes(name + " calls nothing that could be overridden", free.containsAll(calls.getOrDefault(name, Set.of())));
        }
    }

    private static int depth(String name, Map<String, Set<String>> calls, int above) {
        if (!calls.containsKey(name)) {
            return 0;
        }
        if (above > 30) {
            return 1000;
        }
        int deepest = 0;
        for (String called : calls.get(name)) {
            deepest = Math.max(deepest, depth(called, calls, above + 1));
        }
        return deepest + 1;
    }

    /** A method's lines, from its head to the brace that ends it at the same depth. */
    private static void longest(String bare) {
        String[] lines = bare.split("\n");
        for (int i = 0; i < lines.length; i++) {
            Matcher head = METHOD.matcher(lines[i]);
            if (!head.find() || lines[i].matches("\\s*(if|for|while|switch|\\} else).*")) {
                continue;
            }
            int end = i;
            while (end < lines.length && !lines[end].equals(head.group(1) + "}")) {
                end++;
            }
            Due.yes("at most sixty lines: " + lines[i].trim(), end - i <= 60);
        }
    }
}
