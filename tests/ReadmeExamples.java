import java.io.File;
import java.io.IOException;
import java.lang.reflect.Method;
import java.lang.reflect.Modifier;
import java.nio.charset.StandardCharsets;
import java.nio.file.Files;
import java.nio.file.Paths;
import java.util.List;
import java.util.TreeSet;
import java.util.regex.Matcher;
import java.util.regex.Pattern;

/** README.md: each example answers what stands beside it, each call is told of, and so is each test. */
public final class ReadmeExamples {
    private static final Pattern MAKES = Pattern.compile("FallChain x = new FallChain\\(\\);");
    private static final Pattern CALLS = Pattern.compile("x\\.(\\w+)\\(([^)]*)\\);(?: +// (true|false|-?\\d+)(?:: .*)?)?");

    private static int wrong = 0;
    private static int examples = 0;
    private static int answers = 0;

    private static void must(boolean holds, String what) {
        if (!holds) {
            wrong++;
            System.out.println(what);
        }
    }

    private static long number(String text) {
        return text.equals("FallChain.NONE") ? FallChain.NONE : Long.parseLong(text);
    }

    private static Method method(String name) {
        for (Method m : FallChain.class.getDeclaredMethods()) {
            if (m.getName().equals(name) && Modifier.isPublic(m.getModifiers())) {
                return m;
            }
        }
        return null;
    }

    private static String answer(FallChain x, String name, String given) throws ReflectiveOperationException {
        Method m = method(name);
        if (m == null) {
            return "no such call";
        }
        String[] texts = given.isEmpty() ? new String[0] : given.split(", ");
        Class<?>[] types = m.getParameterTypes();
        if (texts.length != types.length) {
            return "not so many numbers";
        }
        Object[] numbers = new Object[texts.length];
        for (int i = 0; i < texts.length; i++) {
            long n = number(texts[i]);
            numbers[i] = types[i] == long.class ? (Object) n : (Object) (int) n;
        }
        return String.valueOf(m.invoke(x, numbers));
    }

    private static void theExamples(List<String> lines) throws ReflectiveOperationException {
        boolean inside = false;
        FallChain x = null;
        for (int i = 0; i < lines.size(); i++) {
            String line = lines.get(i);
            String where = "line " + (i + 1) + ", " + line + ": ";
            if (line.startsWith("```")) {
                inside = line.equals("```java");
                x = null;
            } else if (inside && MAKES.matcher(line).matches()) {
                x = new FallChain();
                examples++;
            } else if (inside) {
                Matcher call = CALLS.matcher(line);
                boolean fits = call.matches() && x != null;
                must(fits, where + "no call that can be read");
                String got = fits ? answer(x, call.group(1), call.group(2)) : "";
                // Where no answer stands, the call is one that does what it should.
                String due = fits && call.group(3) != null ? call.group(3) : "1";
                must(!fits || got.equals(due), where + "answered " + got);
                answers++;
            }
        }
    }

    private static void eachCallIsToldOf(String text) {
        for (Method m : FallChain.class.getDeclaredMethods()) {
            if (Modifier.isPublic(m.getModifiers())) {
                must(text.contains("`" + m.getName() + "`"), "no word of " + m.getName());
                must(text.contains("x." + m.getName() + "("), "no example of " + m.getName());
            }
        }
    }

    private static void eachTestIsToldOf(String text) {
        TreeSet<String> told = new TreeSet<>();
        Matcher rows = Pattern.compile("\\| `(tests/\\w+\\.java)` \\|").matcher(text);
        while (rows.find()) {
            told.add(rows.group(1));
        }
        TreeSet<String> there = new TreeSet<>();
        String[] names = new File("tests").list();
        for (String name : names == null ? new String[0] : names) {
            there.add("tests/" + name);
        }
        must(told.equals(there), "told of: " + told + ", there are: " + there);
    }

    public static void main(String[] args) throws IOException, ReflectiveOperationException {
        String text = new String(Files.readAllBytes(Paths.get("README.md")), StandardCharsets.UTF_8);
        theExamples(List.of(text.split("\n")));
        eachCallIsToldOf(text);
        eachTestIsToldOf(text);
        must(examples > 0 && answers > 0, "there is no example");
        System.out.println(examples + " examples, " + answers + " answers");
        System.out.println(wrong == 0 ? "all answers are as due" : wrong + " answers are not as due");
        if (wrong != 0) {
            System.exit(1);
        }
    }
}
