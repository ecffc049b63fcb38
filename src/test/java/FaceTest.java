import java.lang.reflect.Field;
import java.lang.reflect.Method;
import java.lang.reflect.Modifier;
import java.nio.file.Files;
import java.nio.file.Path;
import java.util.Arrays;
import java.util.List;
import java.util.Set;
import java.util.TreeSet;
import java.util.regex.Matcher;
import java.util.regex.Pattern;

/** The public face is the document's and no more; the source keeps to those rules of LANGUAGE.md that a text shows. */
public final class FaceTest {
    private static int wrong = 0;

    private static final String FACE = """
        int feed(int, int, int, int, int)
        int stream(int) IAE
        int rules(int) IAE
        int fault()
        int way(int, int) NSE
        void flow(int, int, int, int) NSE IAE
        void span(int, int, int) NSE IAE
        int most(int, int) NSE IAE
        int assign(int, int) IOB IAE
        int paint(int, int, int) IOB IAE
        int limit(int, int) IAE
        int hears(int, int, int) IAE
        int peak(int, int) IAE
        boolean whole(int) IAE
        int neck(int, int) IAE
        int shorts(int) IAE
        int length(int) IAE
        int edge(int) IAE
        boolean holds()
        int cost()
        int better(int) IAE
        int grow(int) IAE
        int region(int) IOB
        int parted(int, int) IAE
        int clear()
        int configure(int) IAE
        int pairs(int, int) NSE IAE
        int busy(int) IAE
        int plan(int, int) IAE
        int hours(int, int) IAE
        int ill(int, int) IOB IAE
        int rota(int, int, int) IAE
        int lacks(int, int) IAE
        int enough(int) IAE
        boolean storm(int, boolean) IOB
        int mends(int, int, int, int) IAE
        int did(int, int, int, boolean) IAE
        int fit(int) IAE
        int lead(int, int, int, boolean) IAE
        int worth(int, int) IOB IAE
        int quiet(int) IOB
        int mark()
        int back()
        int count(int)
        """;

    private static void must(boolean is, String what) {
        if (!is) {
            wrong++;
            System.out.println("FaceTest: " + what);
        }
    }

    private static String told(Method m) {
        StringBuilder t = new StringBuilder(m.getReturnType().getName() + " " + m.getName() + "(");
        String sep = "";
        for (Class<?> p : m.getParameterTypes()) {
            t.append(sep).append(p.getName());
            sep = ", ";
        }
        t.append(")");
        for (Class<?> e : m.getExceptionTypes()) {
            t.append(switch (e.getSimpleName()) {
                case "IllegalArgumentException" -> " IAE";
                case "NoSuchElementException" -> " NSE";
                case "IndexOutOfBoundsException" -> " IOB";
                default -> " " + e.getName();
            });
        }
        return t.toString();
    }

    private static void face() throws Exception {
        Set<String> due = new TreeSet<>(FACE.lines().map(String::strip).toList());
        Set<String> names = new TreeSet<>();
        due.forEach(line -> names.add(line.replaceAll("\\(.*", "").replaceAll(".* ", "")));
        Set<String> got = new TreeSet<>();
        for (Method m : SkyCuts.class.getDeclaredMethods()) {
            if (Modifier.isPublic(m.getModifiers())) {
                got.add(told(m));
            } else {
                must(Modifier.isPrivate(m.getModifiers()), m + " is neither public nor private");
                must(!names.contains(m.getName()), m + " bears a public method's name");
            }
        }
        must(got.equals(due), "the methods are " + got + ", due are " + due);
        for (Field f : SkyCuts.class.getDeclaredFields()) {
            boolean none = f.getName().equals("NONE");
            must(none || Modifier.isPrivate(f.getModifiers()), f + " is not private");
        }
        must(told(SkyCuts.class.getField("NONE")), "NONE is no public constant of int");
        must(SkyCuts.class.getConstructors().length == 1 && SkyCuts.class.getDeclaredConstructors().length == 1,
            "there is not one constructor alone");
        must(Modifier.isFinal(SkyCuts.class.getModifiers()), "the class is not final");
        must(SkyCuts.class.getDeclaredClasses().length <= 11, "there are more than twelve classes");
        for (Class<?> c : SkyCuts.class.getDeclaredClasses()) {
            insideFits(c, names);
        }
    }

    private static boolean told(Field none) throws Exception {
        int m = none.getModifiers();
        return none.getType() == int.class && Modifier.isStatic(m) && Modifier.isFinal(m) && none.getInt(null) == -1;
    }

    private static void insideFits(Class<?> c, Set<String> names) {
        must(Modifier.isStatic(c.getModifiers()) && !Modifier.isPublic(c.getModifiers()), c + " is not hidden and static");
        long fields = Arrays.stream(c.getDeclaredFields()).filter(f -> !Modifier.isStatic(f.getModifiers())).count();
        must(fields <= 20, c + " has " + fields + " fields");
        for (Field f : c.getDeclaredFields()) {
            boolean still = !Modifier.isStatic(f.getModifiers()) || Modifier.isFinal(f.getModifiers());
            must(still, f + " is static and not final");
        }
        for (Method m : c.getDeclaredMethods()) {
            must(m.getParameterCount() <= 7, m + " takes more than seven");
            must(!names.contains(m.getName()), m + " bears a public method's name");
        }
    }

    private static void source() throws Exception {
        Path file = Path.of("src/main/java/SkyCuts.java");
        List<String> lines = Files.readAllLines(file);
        String text = String.join("\n", lines);
        String code = text.replaceAll("(?m)//.*$", "").replaceAll("(?s)/\\*.*?\\*/", "");
        for (String sign : new String[] {"->", "::", "Exact(", "System.out", "java.io"}) {
            must(!code.contains(sign), "the source has " + sign);
        }
        for (String word : new String[] {"try", "catch", "finally", "synchronized", "assert", "Random", "Iterator",
            "Object", "double", "float", "instanceof"}) {
            must(!Pattern.compile("\\b" + word + "\\b").matcher(code).find(), "the source has " + word);
        }
        must(text.chars().allMatch(c -> c == '\n' || c >= 32 && c < 127), "the source has signs beyond 32 to 126");
        Matcher imports = Pattern.compile("(?m)^import (.*);$").matcher(text);
        while (imports.find()) {
            must(Set.of("java.util.Arrays", "java.util.NoSuchElementException").contains(imports.group(1)),
                "it imports " + imports.group(1));
        }
        int begin = -1;
        for (int i = 0; i < lines.size(); i++) {
            String line = lines.get(i);
            String indent = line.replaceAll("\\S.*", "");
            if ((indent.length() == 4 || indent.length() == 8) && line.matches(".*\\) (throws .*)?\\{") ) {
                begin = i;
            }
            if (begin >= 0 && (line.equals("    }") || line.equals("        }"))) {
                must(i - begin < 60, "a method of " + (i - begin) + " lines ends at line " + (i + 1));
                begin = -1;
            }
        }
    }

    public static void main(String[] args) throws Exception {
        face();
        source();
        System.out.println("FaceTest: " + wrong + " wrong");
        if (wrong > 0) {
            System.exit(1);
        }
    }
}
