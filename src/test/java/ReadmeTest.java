import java.io.IOException;
import java.lang.reflect.Method;
import java.lang.reflect.Modifier;
import java.nio.file.Files;
import java.nio.file.Path;
import java.util.ArrayList;
import java.util.List;
import java.util.Set;
import java.util.TreeSet;
import java.util.regex.Matcher;
import java.util.regex.Pattern;

/** README.md's examples are made as they stand there, and must answer what their comments say. */
public final class ReadmeTest {
    private static final Path PAGE = Path.of("README.md");
    private static final Path THIS = Path.of("src/test/java/ReadmeTest.java");
    private static final Pattern BLOCK = Pattern.compile("```java\n(.*?)```", Pattern.DOTALL);
    private static final Pattern CALL = Pattern.compile("reform\\.(\\w+)\\((.*)\\); +// (-?\\d+|true|false)(: .+)?");
    private static final Pattern ROW = Pattern.compile("\\| `(\\w+)\\((.*)\\)` \\| .+ \\|");
    private static int wrong = 0;

    public static void main(String[] args) throws Exception {
        List<String> blocks = blocks();
        check(blocks.size() == 2, "README.md has two pieces of Java");
        if (blocks.size() == 2) {
            runTheCalls(blocks.get(0));
            lookUpTheHelper(blocks.get(1));
        }
        tellATextByTheHelper();
        lookUpTheRows();
        System.out.println("README.md: " + wrong + " wrong");
        if (wrong != 0) {
            System.exit(1);
        }
    }

    private static void check(boolean holds, String what) {
        if (!holds) {
            wrong++;
            System.out.println("not so: " + what);
        }
    }

    private static List<String> blocks() throws IOException {
        List<String> blocks = new ArrayList<>();
        Matcher m = BLOCK.matcher(Files.readString(PAGE));
        while (m.find()) {
            blocks.add(m.group(1));
        }
        return blocks;
    }

    private static void runTheCalls(String block) throws Exception {
        LandReform reform = new LandReform();
        Set<String> shown = new TreeSet<>();
        for (String line : block.split("\n")) {
            if (line.isEmpty() || line.startsWith("// ") || line.equals("LandReform reform = new LandReform();")) {
                continue;
            }
            Matcher m = CALL.matcher(line);
            check(m.matches(), "a call with its answer: " + line);
            if (m.matches()) {
                shown.add(m.group(1));
                Object got = answer(reform, m.group(1), m.group(2));
                check(m.group(3).equals(String.valueOf(got)), line + " (answered " + got + ")");
            }
        }
        check(shown.equals(face()), "every call of the face is shown, but these are: " + shown);
    }

    private static Object answer(LandReform reform, String name, String list) throws Exception {
        for (Method call : LandReform.class.getDeclaredMethods()) {
            if (call.getName().equals(name) && Modifier.isPublic(call.getModifiers())) {
                return call.invoke(reform, arguments(list));
            }
        }
        return "there is no such call";
    }

    private static Object[] arguments(String list) {
        String[] words = list.isEmpty() ? new String[0] : list.split(", ");
        Object[] values = new Object[words.length];
        for (int i = 0; i < words.length; i++) {
            switch (words[i]) {
                case "true": values[i] = true; break;
                case "false": values[i] = false; break;
                case "LandReform.NONE": values[i] = LandReform.NONE; break;
                default: values[i] = Integer.decode(words[i]); break;
            }
        }
        return values;
    }

    private static Set<String> face() {
        Set<String> names = new TreeSet<>();
        for (Method call : LandReform.class.getDeclaredMethods()) {
            if (Modifier.isPublic(call.getModifiers())) {
                names.add(call.getName());
            }
        }
        return names;
    }

    private static void lookUpTheHelper(String block) throws IOException {
        String here = Files.readString(THIS).replace("\n    ", "\n");
        check(here.contains(block), "the second piece of Java stands in ReadmeTest, too");
    }

    static int tell(LandReform reform, String text) {
        int[] numbers = new int[5];
        for (int at = 0; at < text.length(); at += 20) {
            for (int i = 0; i < 20; i++) {
                int sign = at + i < text.length() ? text.charAt(at + i) & 255 : ' ';
                numbers[i / 4] = numbers[i / 4] << 8 | sign;
            }
            reform.feed(numbers[0], numbers[1], numbers[2], numbers[3], numbers[4]);
        }
        return reform.act(text.length());
    }

    private static void tellATextByTheHelper() {
        LandReform reform = new LandReform();
        check(tell(reform, "") == 0, "an empty text has no statements");
        check(tell(reform, "ceiling 7;") == 1 && reform.house(0, 2) == 7, "a text shorter than a feed");
        check(tell(reform, "ceiling 80; family 3") == LandReform.NONE && reform.fault() == 20, "a text of twenty bytes");
        check(tell(reform, "ceiling 80; family 3;") == 2 && reform.house(0, 2) == 80, "a text longer than a feed");
        check(tell(reform, "price 3" + (char) 233) == LandReform.NONE && reform.fault() == 7, "a byte above 127");
        String longest = "ceiling 9;" + " ".repeat(390);
        check(tell(reform, longest) == 1 && reform.house(0, 2) == 9, "a text of 400 bytes");
    }

    private static void lookUpTheRows() throws IOException {
        Set<String> rows = new TreeSet<>();
        for (String line : Files.readAllLines(PAGE)) {
            Matcher m = ROW.matcher(line);
            if (m.matches()) {
                rows.add(m.group(1));
                int told = m.group(2).isEmpty() ? 0 : m.group(2).split(", ").length;
                check(told == parametersOf(m.group(1)), "as many arguments as the call takes: " + line);
            }
        }
        check(rows.equals(face()), "a row for every call, but there are: " + rows);
    }

    private static int parametersOf(String name) {
        for (Method call : LandReform.class.getDeclaredMethods()) {
            if (call.getName().equals(name) && Modifier.isPublic(call.getModifiers())) {
                return call.getParameterCount();
            }
        }
        return -1;
    }
}
