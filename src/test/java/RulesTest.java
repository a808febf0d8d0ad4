import java.lang.management.ManagementFactory;
import java.lang.reflect.Field;
import java.lang.reflect.Method;
import java.lang.reflect.Modifier;
import java.nio.file.Files;
import java.nio.file.Path;
import java.util.ArrayList;
import java.util.List;
import java.util.Random;
import java.util.TreeSet;
import java.util.regex.Matcher;
import java.util.regex.Pattern;

/** The face, what can be seen of the rules of ../shared/LANGUAGE.md, that no call throws, and what runs make. */
public final class RulesTest {
    private static final Path SOURCE = Path.of("src/main/java/DepthBoard.java");
    private static final Path DOCUMENT = Path.of("../shared/DOC.md");
    private static final int[] EDGES = {Integer.MIN_VALUE, -101, -3, -2, -1, 0, 1, 2, 3, 4, 5, 6, 7, 9, 10, 11, 12, 13, 20, 39, 40, 41,
        63, 64, 99, 100, 512, 899, 900, 901, 1 << 30, Integer.MAX_VALUE};
    private static int wrong = 0;

    private RulesTest() { }

    public static void main(String[] args) throws Exception {
        String source = Files.readString(SOURCE);
        faceIsTheDocuments();
        words(source);
        members();
        lengths(source);
        noCallThrows();
        littleIsMade();
        System.out.println("RulesTest: " + wrong + " wrong");
        if (wrong != 0) System.exit(1);
    }

    private static void check(boolean holds, String what) {
        if (!holds) {
            wrong++;
            System.out.println(what);
        }
    }

    private static void faceIsTheDocuments() throws Exception {
        TreeSet<String> want = new TreeSet<>();
        Matcher face = Pattern.compile("    public (int|long) (\\w+)\\(([^)]*)\\);").matcher(Files.readString(DOCUMENT));
        while (face.find()) want.add(face.group(1) + " " + face.group(2) + "(" + face.group(3).replaceAll(" \\w+(,|$)", "$1").replace(" ", "") + ")");
        TreeSet<String> got = new TreeSet<>();
        for (Method m : DepthBoard.class.getDeclaredMethods()) {
            if (Modifier.isPrivate(m.getModifiers()) || m.isSynthetic()) continue;
            check(Modifier.isPublic(m.getModifiers()), "neither public nor private: " + m);
            List<String> types = new ArrayList<>();
            for (Class<?> c : m.getParameterTypes()) types.add(c.getName());
            got.add(m.getReturnType().getName() + " " + m.getName() + "(" + String.join(",", types) + ")");
        }
        check(want.size() == 44, "the document's methods: " + want.size());
        check(got.equals(want), "the face is " + got + ", due is " + want);
        check(DepthBoard.class.getConstructors().length == 1, "one public constructor");
        check(Modifier.isFinal(DepthBoard.class.getModifiers()), "a final class");
        for (Field f : DepthBoard.class.getDeclaredFields()) {
            check(Modifier.isPrivate(f.getModifiers()) || f.getName().equals("NONE"), "a field that shows: " + f);
        }
    }

    private static void words(String source) {
        String code = source.replaceAll("(?s)/\\*.*?\\*/", " ").replaceAll("//[^\n]*", " ").replaceAll("\"[^\"\n]*\"", "\"\"");
        for (String word : List.of("throw", "throws", "try", "catch", "synchronized", "assert", "double", "float", "native", "volatile",
            "HashMap", "Random", "Thread", "Exception", "Object", "package", "goto", "var", "hashCode", "toString", "interrupt")) {
            check(!Pattern.compile("\\b" + word + "\\b").matcher(code).find(), "the word " + word);
        }
        check(!code.contains("->") && !code.contains("::"), "a lambda or a method reference");
        check(source.chars().allMatch(c -> c == 10 || c >= 32 && c < 127), "a sign outside ASCII");
        Matcher imports = Pattern.compile("import ([\\w.]+);").matcher(code);
        while (imports.find()) check(imports.group(1).equals("java.util.Arrays"), "import " + imports.group(1));
        Matcher library = Pattern.compile("\\b(Arrays|Math|Integer|Long|System|String)\\.(\\w+)").matcher(code);
        while (library.find()) {
            check(List.of("fill", "copyOf", "arraycopy", "bitCount", "min", "max").contains(library.group(2)), library.group());
        }
    }

    private static List<Class<?>> classes() {
        List<Class<?>> all = new ArrayList<>(List.of(DepthBoard.class.getDeclaredClasses()));
        all.add(DepthBoard.class);
        return all;
    }

    private static void members() {
        TreeSet<String> face = new TreeSet<>();
        for (Method m : DepthBoard.class.getMethods()) face.add(m.getName());
        check(classes().size() <= 12, "classes: " + classes().size());
        for (Class<?> c : classes()) {
            check(c == DepthBoard.class || Modifier.isStatic(c.getModifiers()) && !Modifier.isPublic(c.getModifiers()), "class " + c);
            int fields = 0;
            for (Field f : c.getDeclaredFields()) {
                if (Modifier.isStatic(f.getModifiers())) check(Modifier.isFinal(f.getModifiers()), "a static field that changes: " + f);
                else fields++;
            }
            check(fields <= 20, c + " has fields: " + fields);
            for (Method m : c.getDeclaredMethods()) {
                check(m.getParameterCount() <= 7, "parameters of " + m);
                check(c == DepthBoard.class && Modifier.isPublic(m.getModifiers()) || !face.contains(m.getName()), "a name of the face: " + m);
            }
        }
    }

    private static void lengths(String source) {
        String[] lines = source.split("\n");
        int from = 0;
        for (int i = 0; i < lines.length; i++) {
            check(lines[i].length() <= 130, "line " + (i + 1) + " is long");
            if (lines[i].matches("( {4}| {8})\\S.*\\) \\{")) from = i;
            if (lines[i].matches("( {4}| {8})\\}")) check(i - from <= 60, "the method at line " + (from + 1) + " is long");
        }
    }

    /** Every call with arguments at and beyond all edges, in many states. */
    private static void noCallThrows() throws Exception {
        Random random = new Random(7);
        Texts texts = new Texts(random);
        for (int run = 0; run < 200; run++) {
            DepthBoard x = new DepthBoard();
            if (run % 10 > 0) {
                String text = texts.good();
                Due.tell(x, text);
            }
            List<String> calls = new ArrayList<>();
            Method[] methods = DepthBoard.class.getDeclaredMethods();
            for (int i = 0; i < 450; i++) {
                Method m = methods[random.nextInt(methods.length)];
                if (!Modifier.isPublic(m.getModifiers())) continue;
                Object[] with = new Object[m.getParameterCount()];
                for (int k = 0; k < with.length; k++) {
                    int edge = random.nextInt(2) == 0 ? random.nextInt(7) : EDGES[random.nextInt(EDGES.length)];
                    long wide = random.nextInt(9) == 0 ? random.nextLong() : edge;
                    with[k] = m.getParameterTypes()[k] == long.class ? (Object) wide : (Object) edge;
                }
                calls.add(m.getName() + java.util.Arrays.toString(with));
                try {
                    m.invoke(x, with);
                } catch (java.lang.reflect.InvocationTargetException e) {
                    check(false, "threw " + e.getCause() + " behind " + calls);
                    return;
                }
            }
        }
    }

    private static long bytes() {
        return ((com.sun.management.ThreadMXBean) ManagementFactory.getThreadMXBean()).getThreadAllocatedBytes(Thread.currentThread().getId());
    }

    /** The dearest calls on one object after another stay far below what one room has. */
    private static void littleIsMade() {
        long ahead = bytes();
        DepthBoard x = new DepthBoard();
        check(bytes() - ahead < 16000, "a new object takes bytes: " + (bytes() - ahead));
        String text = "pool 5;thing at 11 guard 7;thing at 13 needs 0;thing at 9 needs 0;thing at 7;thing at 11 guard 4 needs 3;thing at 14;"
            + "goer breath 6 bold 4;goer breath 5 bold 5;goer breath 7 bold 9;goer breath 8 bold 8;goer breath 10 bold 8;goer breath 2 bold 6;"
            + "reaches : breath + bold - board;tells : board + 2 - who;";
        Due.tell(x, text);
        x.numbers(0, 0, 12);
        ahead = bytes();
        for (int i = 0; i < 40; i++) {
            x.bold(i % 6, i % 10);
            x.power(21, 42);
            x.forces(0, 63, 63);
            x.fewest(1);
            x.needed(1);
            x.rows(1, 12);
            x.suspects(0);
            x.chance(1, 6, 0);
            x.numbersTold(63);
            x.nexts(0, 0);
            x.image(0);
            x.restore(0);
        }
        check(bytes() - ahead < 400000, "480 dear calls take bytes: " + (bytes() - ahead));
    }
}
