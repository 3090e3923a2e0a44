import java.io.IOException;
import java.lang.reflect.Constructor;
import java.lang.reflect.Field;
import java.lang.reflect.Method;
import java.lang.reflect.Modifier;
import java.nio.file.Files;
import java.nio.file.Path;
import java.util.ArrayList;
import java.util.HashSet;
import java.util.List;
import java.util.Map;
import java.util.Set;
import java.util.TreeMap;
import java.util.TreeSet;
import java.util.regex.Matcher;
import java.util.regex.Pattern;

/** The public face of the document, and those rules of LANGUAGE.md that can be seen from outside. */
public final class LanguageTest {
    private static final String FACE = """
            public int letter(int)
            public int town()
            public int bell(int,int)
            public int person(int,int)
            public int says(int,int)
            public int goes(int,int)
            public int sleeps(int,int)
            public int beds(int)
            public int turn(int,int,int)
            public int days(int)
            public int personThen(int,int,int)
            public int bellThen(int,int,int)
            public int deaf(int)
            public int lost(int)
            public int rings(int,int,int)
            public int send(int,int,int)
            public int nightsFor(int,int)
            public int fewest(int)
            public int ask(int)
            public int leave()
            public int right(int)
            public int clash(int)
            public int agreed(int)
            public int hours(int)
            public int bedsFor(int)
            public int next(int)
            public int together()
            public int cost(int,int,int)
            public int two(int,int,int)
            public long fog(int,int,int,int)
            public long mean(int)
            public int whatIs(int,int,int)
            public int row(int)
            public int judge()
            public int clear()
            public int lots(int,int,int)
            public int image()
            public int on()
            public int count(int)
            """;

    private static final int MOST_DEEP = 8;

    private static int wrong = 0;

    public static void main(String[] args) throws IOException {
        face();
        classes();
        text(Files.readString(Path.of("src/main/java/OnlyStrangersHear.java")));
        System.out.println(wrong == 0 ? "face and language are as due" : wrong + " rules are broken");
        if (wrong != 0) {
            System.exit(1);
        }
    }

    private static void check(boolean isSo, String rule) {
        if (!isSo) {
            wrong++;
            System.out.println("broken: " + rule);
        }
    }

    private static void face() {
        Class<?> it = OnlyStrangersHear.class;
        check(it.getModifiers() == (Modifier.PUBLIC | Modifier.FINAL), "the class is public and final");
        Set<String> due = new TreeSet<>(List.of(FACE.strip().split("\\s*\\n\\s*")));
        Set<String> seen = new TreeSet<>();
        Set<String> names = new HashSet<>();
        for (Method m : it.getDeclaredMethods()) {
            if (!Modifier.isPrivate(m.getModifiers())) {
                seen.add(m.toGenericString().replace("OnlyStrangersHear.", ""));
                names.add(m.getName());
            }
        }
        check(seen.equals(due), "the methods of the face and no others: " + seen);
        for (Class<?> c : allClasses()) {
            for (Method m : c.getDeclaredMethods()) {
                check(!Modifier.isPrivate(m.getModifiers()) || !names.contains(m.getName()), "1: a private " + m);
            }
        }
        Constructor<?>[] constructors = it.getDeclaredConstructors();
        check(constructors.length == 1 && Modifier.isPublic(constructors[0].getModifiers())
                && constructors[0].getParameterCount() == 0, "one public constructor without parameters");
        for (Field f : it.getDeclaredFields()) {
            check(Modifier.isPrivate(f.getModifiers()), "1: field " + f.getName() + " is seen");
        }
    }

    private static List<Class<?>> allClasses() {
        List<Class<?>> all = new ArrayList<>(List.of(OnlyStrangersHear.class.getDeclaredClasses()));
        all.add(OnlyStrangersHear.class);
        return all;
    }

    private static void classes() {
        check(allClasses().size() <= 12, "11: at most twelve classes");
        for (Class<?> c : allClasses()) {
            check(c == OnlyStrangersHear.class || Modifier.isStatic(c.getModifiers()), "2: " + c + " is not static");
            int fields = 0;
            for (Field f : c.getDeclaredFields()) {
                boolean isStatic = Modifier.isStatic(f.getModifiers());
                check(!isStatic || Modifier.isFinal(f.getModifiers()), "5: static " + f + " is not final");
                fields += isStatic ? 0 : 1;
            }
            check(fields <= 20, "11: " + c + " has " + fields + " fields");
            for (Method m : c.getDeclaredMethods()) {
                check(m.getParameterCount() <= 7, "11: " + m + " takes too many");
                check(!m.isSynthetic(), "2: " + m + " is made by the compiler");
            }
        }
    }

    private static void text(String source) {
        for (int i = 0; i < source.length(); i++) {
            check(source.charAt(i) < 128, "4: a sign above 127 at " + i);
        }
        String code = source.replaceAll("(?s)/\\*.*?\\*/", "").replaceAll("//[^\\n]*", "");
        code = code.replaceAll("\"[^\"\\n]*\"", "\"\"").replaceAll("'[^'\\n]+'", "' '");
        String[] barred = {"throw", "throws", "try", "catch", "synchronized", "assert", "import", "package", "static \\{",
            "->", "::", "hashCode", "toString", "Exact\\b", "double", "float", "while", "volatile", "native"};
        for (String word : barred) {
            String pattern = Character.isLetter(word.charAt(0)) ? "\\b" + word : Pattern.quote(word);
            check(!Pattern.compile(pattern).matcher(code).find(), word + " stands in the code");
        }
        Set<String> library = new HashSet<>();
        Matcher m = Pattern.compile("\\b([A-Z][a-z]\\w*)\\.(\\w+)").matcher(code);
        while (m.find()) {
            library.add(m.group());
        }
        library.removeAll(Set.of("Integer.bitCount", "Integer.MAX_VALUE", "Math.max", "Math.min", "System.arraycopy"));
        check(library.isEmpty(), "4: of the library " + library);
        methods(source);
    }

    private static void methods(String source) {
        String[] lines = source.split("\n");
        Pattern start = Pattern.compile("^( {4}| {8})(?:[\\w\\[\\]][\\w\\[\\] ]* )?(\\w+)\\(.*\\{$");
        Map<String, String> bodies = new TreeMap<>();
        for (int i = 0; i < lines.length; i++) {
            Matcher head = start.matcher(lines[i]);
            if (head.matches()) {
                int end = i;
                while (end < lines.length && !lines[end].equals(head.group(1) + "}")) {
                    end++;
                }
                check(end - i < 60, "11: a long method in line " + (i + 1));
                String body = String.join("\n", List.of(lines).subList(i + 1, end));
                bodies.merge(head.group(2), body, String::concat);
            }
        }
        for (String name : bodies.keySet()) {
            check(depth(name, bodies, 0) <= MOST_DEEP, "11: calls go too deep from " + name);
        }
    }

    /** Methods of one name count as one, so it is never told too low; what calls itself is told too deep. */
    private static int depth(String name, Map<String, String> bodies, int above) {
        if (above > MOST_DEEP) {
            return above;
        }
        int deepest = above + 1;
        Matcher call = Pattern.compile("\\b(\\w+)\\(").matcher(bodies.getOrDefault(name, ""));
        while (call.find()) {
            if (!Set.of("if", "for", "switch").contains(call.group(1))) {
                deepest = Math.max(deepest, depth(call.group(1), bodies, above + 1));
            }
        }
        return deepest;
    }
}
