import java.io.IOException;
import java.lang.reflect.Array;
import java.lang.reflect.Constructor;
import java.lang.reflect.Field;
import java.lang.reflect.Method;
import java.lang.reflect.Modifier;
import java.nio.charset.StandardCharsets;
import java.nio.file.Files;
import java.nio.file.Paths;
import java.util.ArrayList;
import java.util.IdentityHashMap;
import java.util.List;
import java.util.Map;
import java.util.TreeSet;
import java.util.regex.Matcher;
import java.util.regex.Pattern;

/** The face of the class, the rules of LANGUAGE.md that can be seen in its text or its members, and its room. */
public final class LanguageRules {
    private static final String[] FACE = {
        "FallChain()", "NONE", "int put(int, int, int, int)", "int cords(int, int, int, int)", "int ball(int)",
        "int raze(int)", "int start(int, int, int)", "int noStarts()", "int row(int, int, int)", "int set(int, int, long)",
        "int copy(int, int, int, int, int)", "long element(int, int)", "int holds(int)", "int puts(int)", "int keep(int)",
        "int load(int)", "int at(int, int)", "int run()", "int ran(int)", "int strike(int, int)", "int ended(int, int)",
        "int why(int, int)", "boolean met(int, int)", "int fragile(int, int)", "int weak(int)", "int fits(int, int, int)",
        "int fit(int)", "int fewest(int, int)", "int fewestPiece(int)", "int tune(int)", "int status(int)",
    };
    private static final int MOST_OBJECTS = 600_000;
    private static final int MOST_ELEMENTS = 7_300_000;
    private static final int CALLS = 512;

    private static int wrong = 0;

    private static void must(boolean holds, String what) {
        if (!holds) {
            wrong++;
            System.out.println(what);
        }
    }

    private static String types(Class<?>[] types) {
        StringBuilder text = new StringBuilder("(");
        for (int i = 0; i < types.length; i++) {
            text.append(i > 0 ? ", " : "").append(types[i].getName());
        }
        return text.append(")").toString();
    }

    private static void theFace() {
        TreeSet<String> face = new TreeSet<>();
        for (Constructor<?> c : FallChain.class.getDeclaredConstructors()) {
            must(Modifier.isPublic(c.getModifiers()), "a constructor that is not public");
            face.add("FallChain" + types(c.getParameterTypes()));
        }
        for (Method m : FallChain.class.getDeclaredMethods()) {
            if (Modifier.isPublic(m.getModifiers())) {
                must(!Modifier.isStatic(m.getModifiers()), m.getName() + " is static");
                face.add(m.getReturnType().getName() + " " + m.getName() + types(m.getParameterTypes()));
            } else {
                must(Modifier.isPrivate(m.getModifiers()), m.getName() + " is neither public nor private");
            }
        }
        for (Field f : FallChain.class.getDeclaredFields()) {
            if (Modifier.isPublic(f.getModifiers())) {
                face.add(f.getName());
            } else {
                must(Modifier.isPrivate(f.getModifiers()), f.getName() + " is neither public nor private");
            }
        }
        must(face.equals(new TreeSet<>(List.of(FACE))), "the face is " + face);
        int form = FallChain.class.getModifiers();
        must(Modifier.isPublic(form) && Modifier.isFinal(form), "the class is not public and final");
        must(FallChain.NONE == -1, "NONE is " + FallChain.NONE);
    }

    private static void theMembers() {
        List<Class<?>> classes = new ArrayList<>(List.of(FallChain.class.getDeclaredClasses()));
        must(classes.size() <= 12, "too many classes: " + classes.size());
        TreeSet<String> face = new TreeSet<>();
        for (Method m : FallChain.class.getDeclaredMethods()) {
            if (Modifier.isPublic(m.getModifiers())) {
                face.add(m.getName());
            }
        }
        for (Class<?> c : classes) {
            must(Modifier.isStatic(c.getModifiers()), c + " is not static");
            must(!Modifier.isPublic(c.getModifiers()) && !Modifier.isProtected(c.getModifiers()), c + " is too open");
            for (Method m : c.getDeclaredMethods()) {
                must(!face.contains(m.getName()), c + " has a method " + m.getName() + ", as the face has");
            }
        }
        classes.add(FallChain.class);
        for (Class<?> c : classes) {
            int fields = 0;
            for (Field f : c.getDeclaredFields()) {
                boolean fixed = Modifier.isStatic(f.getModifiers());
                must(!fixed || Modifier.isFinal(f.getModifiers()), f + " is static and not final");
                fields += fixed ? 0 : 1;
            }
            must(fields <= 20, c + " has too many fields: " + fields);
            for (Method m : c.getDeclaredMethods()) {
                must(m.getParameterCount() <= 7, m + " takes too many parameters");
            }
        }
    }

    private static String withoutComments(String text) {
        return text.replaceAll("(?s)/\\*.*?\\*/", " ").replaceAll("//[^\n]*", " ");
    }

    private static void theText() throws IOException {
        String whole = new String(Files.readAllBytes(Paths.get("src/main/java/FallChain.java")), StandardCharsets.UTF_8);
        for (int i = 0; i < whole.length(); i++) {
            must(whole.charAt(i) > 0 && whole.charAt(i) < 128, "a sign that is not 1 to 127, at " + i);
        }
        String text = withoutComments(whole);
        String[] never = {
            "throw", "throws", "try", "catch", "finally", "synchronized", "assert", "import", "package", "native",
            "transient", "volatile", "protected", "var", "yield", "equals", "hashCode", "toString", "Object", "Random",
            "Thread", "Exception", "Error",
        };
        for (String word : never) {
            must(!Pattern.compile("\\b" + word + "\\b").matcher(text).find(), "the word " + word);
        }
        for (String sign : new String[] {"->", "::", "Exact(", "@", "static {"}) {
            must(!text.contains(sign), "the sign " + sign);
        }
        Matcher library = Pattern.compile("\\b(System|Integer|Long|Math|Arrays|String|StringBuilder)\\b(\\.\\w+)?").matcher(text);
        List<String> allowed = List.of("System.arraycopy", "Integer.bitCount");
        while (library.find()) {
            must(allowed.contains(library.group()), "of the library: " + library.group());
        }
        Matcher loop = Pattern.compile("\\b(while|do)\\b").matcher(text);
        must(!loop.find(), "a loop that is no for");
        methodsAreShort(whole);
    }

    private static void methodsAreShort(String text) {
        String[] lines = text.split("\n");
        Matcher head = Pattern.compile("^( +)(?!.*\\bclass\\b)[\\w<>\\[\\] ]+\\([^;]*\\) \\{$").matcher("");
        for (int i = 0; i < lines.length; i++) {
            if (head.reset(lines[i]).find() && !lines[i].trim().matches("(if|for|while|switch|\\}).*")) {
                int end = i;
                while (!lines[end].equals(head.group(1) + "}")) {
                    end++;
                }
                must(end - i < 60, "too long: " + lines[i].trim());
            }
        }
    }

    private static void count(Object o, Map<Object, Boolean> known, long[] sums) throws IllegalAccessException {
        if (o == null || known.put(o, true) != null) {
            return;
        }
        sums[0]++;
        if (o.getClass().isArray()) {
            sums[1] += Array.getLength(o);
            for (int i = 0; o instanceof Object[] && i < Array.getLength(o); i++) {
                count(Array.get(o, i), known, sums);
            }
            return;
        }
        for (Field f : o.getClass().getDeclaredFields()) {
            if (!Modifier.isStatic(f.getModifiers())) {
                f.setAccessible(true);
                sums[1]++;
                if (!f.getType().isPrimitive()) {
                    count(f.get(o), known, sums);
                }
            }
        }
    }

    /** All calls of one run live in one room, even if each of them were the dearest one, or a new object. */
    private static void theRoom() throws IllegalAccessException {
        long[] made = new long[2];
        FallChain x = new FallChain();
        count(x, new IdentityHashMap<>(), made);
        must(made[0] * CALLS <= MOST_OBJECTS, "a new object is of " + made[0] + " objects");
        must(made[1] * CALLS <= MOST_ELEMENTS, "a new object is of " + made[1] + " elements");
        long[] filled = new long[2];
        for (int s = 0; s < 8; s++) {
            x.keep(s);
        }
        count(x, new IdentityHashMap<>(), filled);
        long perKeep = (filled[1] - made[1]) / 8;
        must(made[1] + CALLS * perKeep <= MOST_ELEMENTS, "a kept plan is of " + perKeep + " elements");
        System.out.println("a new object: " + made[0] + " objects, " + made[1] + " elements; a kept plan: " + perKeep);
        wishesMakeNothing();
    }

    private static void wishesMakeNothing() {
        com.sun.management.ThreadMXBean bean =
            (com.sun.management.ThreadMXBean) java.lang.management.ManagementFactory.getThreadMXBean();
        FallChain x = new FallChain();
        x.put(13, 1, 1, 0);
        x.put(15, 5, 0, 0);
        x.put(40, 8, 0, 0);
        x.start(13, 3, 0);
        bean.getCurrentThreadAllocatedBytes();
        long before = bean.getCurrentThreadAllocatedBytes();
        for (int i = 0; i < 100; i++) {
            x.run();
            x.met(40, -1);
            x.fragile(40, -1);
            x.fits(14, 40, -1);
            x.fewest(40, -1);
        }
        long bytes = bean.getCurrentThreadAllocatedBytes() - before;
        must(bytes < 10_000, "runs and wishes made " + bytes + " bytes");
    }

    public static void main(String[] args) throws IOException, IllegalAccessException {
        theFace();
        theMembers();
        theText();
        theRoom();
        System.out.println(wrong == 0 ? "all rules are kept" : wrong + " rules are broken");
        if (wrong != 0) {
            System.exit(1);
        }
    }
}
