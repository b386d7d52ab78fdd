import java.lang.reflect.Field;
import java.lang.reflect.Method;
import java.lang.reflect.Modifier;
import java.nio.file.Files;
import java.nio.file.Path;
import java.util.ArrayList;
import java.util.Arrays;
import java.util.List;
import java.util.TreeSet;

/** The rules of LANGUAGE.md that can be seen from the text and the face of the class. */
public final class Rules {
    private static final String[] FACE = {"int feed 5", "int farm 1", "int law 1", "int work 1", "int book 1", "int fault 0",
        "int undo 0", "int told 1", "int field 2", "int sound 2", "int order 2", "int yields 2", "int would 6", "int loud 1",
        "int drowned 0", "int ahead 1", "int best 1", "int turnsOf 3", "int sets 2", "int crossing 2", "int generation 1",
        "long rows 1", "int stable 0", "int heard 1", "int sure 1", "int ear 1", "int against 2", "int keeps 2",
        "int blight 4", "int span 5", "int sums 1", "int image 0", "int restore 0", "int status 1", "int count 1"};
    private static final String[] FORBIDDEN = {"->", "::", "synchronized", "finally", "assert", "instanceof", "catch", "Exact",
        "protected", "static {", "getMessage", "System.out", "Random", "System.nano", "@", "double", "float", "package ",
        "Integer.MAX", "String.format", "equals("};

    private Rules() {
    }

    private static void holds(String what, boolean fine) {
        Check.due(what, fine ? 1 : 0, 1);
    }

    private static void face() {
        TreeSet<String> has = new TreeSet<>();
        TreeSet<String> names = new TreeSet<>();
        for (Method m : NoiseFields.class.getDeclaredMethods()) {
            if (Modifier.isPrivate(m.getModifiers())) {
                continue;
            }
            holds(m + " is public", Modifier.isPublic(m.getModifiers()));
            has.add(m.getReturnType() + " " + m.getName() + " " + m.getParameterCount());
            names.add(m.getName());
        }
        Check.same("the face", has.toString(), new TreeSet<>(Arrays.asList(FACE)).toString());
        List<Class<?>> all = new ArrayList<>(Arrays.asList(NoiseFields.class.getDeclaredClasses()));
        all.add(NoiseFields.class);
        holds("at most twelve classes, not " + all.size(), all.size() <= 12);
        for (Class<?> c : all) {
            members(c, names);
        }
    }

    private static void members(Class<?> c, TreeSet<String> names) {
        int fields = 0;
        for (Field f : c.getDeclaredFields()) {
            boolean constant = Modifier.isStatic(f.getModifiers());
            fields += constant ? 0 : 1;
            holds(f + " is final, if static", !constant || Modifier.isFinal(f.getModifiers()));
            holds(f + " is private in the outer class", c != NoiseFields.class || f.getName().equals("NONE")
                || Modifier.isPrivate(f.getModifiers()));
        }
        holds(c + " has at most twenty fields", fields <= 20);
        for (Method m : c.getDeclaredMethods()) {
            holds(m + " has at most seven parameters", m.getParameterCount() <= 7);
            holds(m + " bears no public name", Modifier.isPublic(m.getModifiers()) || !names.contains(m.getName()));
        }
        if (c != NoiseFields.class) {
            holds(c + " is static", Modifier.isStatic(c.getModifiers()));
        }
    }

    private static void text() throws Exception {
        List<String> lines = Files.readAllLines(Path.of("src/main/java/NoiseFields.java"));
        int begun = 0;
        for (int i = 0; i < lines.size(); i++) {
            String line = lines.get(i);
            String code = line.replaceAll("//.*", "").replaceAll("^ *(/\\*\\*|\\*).*", "");
            for (String word : FORBIDDEN) {
                holds("line " + (i + 1) + " without " + word, !code.contains(word));
            }
            holds("line " + (i + 1) + " is ASCII and short", line.length() <= 130 && line.chars().allMatch(c -> c < 127));
            boolean method = code.matches(" {4}( {4})?[a-zA-Z][^=;]*\\) *(throws [^{]*)?\\{");
            begun = method ? i : begun;
            if (code.matches(" {4}( {4})?\\}") && begun > 0) {
                holds("the method of line " + (begun + 1) + " is short", i - begun <= 60);
                begun = 0;
            }
        }
        for (String line : lines) {
            holds(line, !line.startsWith("import") || line.equals("import java.util.Arrays;")
                || line.equals("import java.util.NoSuchElementException;"));
        }
    }

    public static void main(String[] args) throws Exception {
        face();
        text();
        Check.end("Rules");
    }
}
