import java.lang.reflect.Constructor;
import java.lang.reflect.Field;
import java.lang.reflect.InvocationTargetException;
import java.lang.reflect.Method;
import java.lang.reflect.Modifier;
import java.nio.file.Files;
import java.nio.file.Path;
import java.util.Arrays;
import java.util.Comparator;
import java.util.Random;
import java.util.Set;
import java.util.TreeSet;
import java.util.regex.Matcher;
import java.util.regex.Pattern;

/** What LANGUAGE.md asks of the class, as far as its face and its words show it; the file's path may be given. */
public final class LanguageTest {
    private static final String[] FACE = {
        "int person(int,int)", "boolean akin(int,int)", "int field(int,int,int,int,int)", "boolean day(int)",
        "boolean transfer(int,int)", "int feed(int,int,int,int,int)", "int act(int)", "int fault()",
        "int told(int,int)", "int owned(int,int)", "int house(int,int)", "int kept(int,int)", "int taken(int,int)",
        "int share(int,int,int)", "int given(int,int,int,int)", "int rings(int,int,int)", "int swap(int,int)",
        "int sell(int,int)", "int year(int,boolean)", "int sale(int,int)", "int count(int)"};
    private static final String[] FORBIDDEN = {
        "\\b(throw|throws|try|catch|finally|synchronized|assert|package|native|volatile|transient)\\b", "->", "::",
        "Exact\\b", "\\bSystem\\.(?!arraycopy\\b)", "\\bimport (?!java\\.util\\.(Arrays|ArrayList|List);)",
        "\\.(hashCode|toString|getClass|ordinal|compareTo)\\(", "\\bstatic\\s*\\{", "\\b(Thread|Random|Object|Runtime)\\b",
        "\\bprivate static (?!final\\b|boolean\\b|int\\b|void\\b|long\\b)", "while \\(true\\)", "for \\(;;\\)"};
    private static int wrong = 0;

    public static void main(String[] args) throws Exception {
        face();
        for (Class<?> c : LandReform.class.getDeclaredClasses()) {
            check(Modifier.isStatic(c.getModifiers()) && !Modifier.isPublic(c.getModifiers()), c + " is static and not public");
            check(c.getDeclaredClasses().length == 0, c + " has no class inside");
            shape(c);
        }
        shape(LandReform.class);
        check(LandReform.class.getDeclaredClasses().length <= 11, "at most twelve classes");
        noCallThrows();
        words(Files.readString(Path.of(args.length > 0 ? args[0] : "src/main/java/LandReform.java")));
        System.out.println(wrong + " rules broken");
        if (wrong != 0) {
            System.exit(1);
        }
    }

    private static void check(boolean holds, String rule) {
        if (!holds) {
            wrong++;
            System.out.println("broken: " + rule);
        }
    }

    private static void face() throws Exception {
        Set<String> open = new TreeSet<>();
        for (Method m : LandReform.class.getDeclaredMethods()) {
            if (!Modifier.isPrivate(m.getModifiers())) {
                String parameters = Arrays.toString(m.getParameterTypes()).replaceAll("[\\[\\] ]", "");
                open.add(m.getReturnType() + " " + m.getName() + "(" + parameters + ")");
                check(m.getModifiers() == Modifier.PUBLIC, m + " is public alone");
            }
        }
        check(open.equals(new TreeSet<>(Arrays.asList(FACE))), "the face's methods: " + open);
        Constructor<?>[] made = LandReform.class.getDeclaredConstructors();
        check(made.length == 1 && made[0].getParameterCount() == 0, "one constructor");
        check(Modifier.isPublic(made[0].getModifiers()), "a public constructor");
        for (Field f : LandReform.class.getDeclaredFields()) {
            check(Modifier.isPrivate(f.getModifiers()) || f.getName().equals("NONE"), f + " is private");
        }
        check(LandReform.class.getField("NONE").getInt(null) == -1, "NONE");
        check(LandReform.class.getModifiers() == (Modifier.PUBLIC | Modifier.FINAL), "public and final");
    }

    private static void shape(Class<?> c) {
        int own = 0;
        for (Field f : c.getDeclaredFields()) {
            boolean isStatic = Modifier.isStatic(f.getModifiers());
            check(!isStatic || Modifier.isFinal(f.getModifiers()), f + " is final");
            own += isStatic ? 0 : 1;
        }
        check(own <= 20, c + " has at most twenty fields");
        for (Method m : c.getDeclaredMethods()) {
            check(m.getParameterCount() <= 7, m + " takes at most seven");
            boolean ofFace = Arrays.stream(FACE).anyMatch(f -> f.contains(" " + m.getName() + "("));
            check(!ofFace || c == LandReform.class && Modifier.isPublic(m.getModifiers()), m + " bears a public name");
        }
    }

    /** Any calls with any arguments, more of them than the document promises answers for. */
    private static void noCallThrows() throws Exception {
        Method[] calls = Arrays.stream(LandReform.class.getDeclaredMethods())
                .filter(m -> Modifier.isPublic(m.getModifiers())).toArray(Method[]::new);
        // Reflection tells them in no certain order, and a run must be the same each time.
        Arrays.sort(calls, Comparator.comparing(Method::getName));
        Random random = new Random(1);
        for (int run = 0; run < 200; run++) {
            LandReform x = new LandReform();
            for (int i = 0; i < 1500; i++) {
                Method m = calls[random.nextInt(calls.length)];
                Object[] arguments = Arrays.stream(m.getParameterTypes())
                        .map(t -> t == boolean.class ? (Object) random.nextBoolean() : (Object) anyNumber(random)).toArray();
                try {
                    m.invoke(x, arguments);
                } catch (InvocationTargetException e) {
                    check(false, "no call throws: " + m.getName() + Arrays.toString(arguments) + " " + e.getCause());
                }
            }
        }
    }

    private static int anyNumber(Random random) {
        switch (random.nextInt(12)) {
            case 0: return random.nextInt();
            case 1: return Integer.MAX_VALUE - random.nextInt(10);
            case 2: return Integer.MIN_VALUE + random.nextInt(10);
            case 3: return -1;
            case 4: return random.nextInt(1100);
            default: return random.nextInt(random.nextBoolean() ? 4 : 60);
        }
    }

    private static void words(String source) {
        String bare = source.replaceAll("\"[^\"\\n]*\"", "\"\"").replaceAll("(?s)/\\*.*?\\*/", "").replaceAll("//[^\\n]*", "");
        for (String word : FORBIDDEN) {
            Matcher m = Pattern.compile(word).matcher(bare);
            check(!m.find(), "the text has " + word);
        }
        int length = 0;
        for (String line : source.split("\n")) {
            length = line.matches("    (    )?[a-z].*\\) \\{") ? 0 : length + 1;
            check(length < 60 || !line.matches("    (    )?\\}"), "a method is too long before: " + line);
            check(line.length() <= 120, "a line is too long: " + line);
            check(line.chars().allMatch(s -> s < 128), "a sign beyond 127: " + line);
        }
    }
}
