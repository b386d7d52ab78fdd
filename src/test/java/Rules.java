import java.lang.reflect.Field;
import java.lang.reflect.Method;
import java.lang.reflect.Modifier;
import java.nio.file.Files;
import java.nio.file.Path;
import java.util.ArrayList;
import java.util.Arrays;
import java.util.List;
import java.util.TreeSet;
import java.util.regex.Matcher;
import java.util.regex.Pattern;
import java.util.stream.Collectors;

/** The rules of LANGUAGE.md that can be seen from the text and the face of the class. */
public final class Rules {
    private static final String[] FORBIDDEN = {"->", "::", "synchronized", "finally", "assert", "instanceof", "catch", "Exact",
        "protected", "static {", "getMessage", "System.out", "Random", "System.nano", "@", "double", "float", "package ",
        "Integer.MAX", "String.format", "equals("};

    private Rules() {
    }

    private static void holds(String what, boolean fine) {
        Check.due(what, fine ? 1 : 0, 1);
    }

    /** The face as the document writes it: what is answered, the name, the arguments' types, what is thrown. */
    private static TreeSet<String> dueFace() throws Exception {
        TreeSet<String> due = new TreeSet<>();
        Pattern member = Pattern.compile(" *public (int|long) (\\w+)\\(([^)]*)\\)(?: throws ([^;]*))?;");
        for (String line : Files.readAllLines(Path.of("../shared/DOC.md"))) {
            Matcher found = member.matcher(line);
            if (found.matches()) {
                String types = found.group(3).replaceAll(" \\w+(,|$)", "$1");
                due.add(found.group(1) + " " + found.group(2) + "(" + types + ") " + (found.group(4) == null ? "" : found.group(4)));
            }
        }
        holds("the document has a face", due.size() == 35);
        return due;
    }

    private static String listed(Class<?>[] types) {
        return Arrays.stream(types).map(Class::getSimpleName).collect(Collectors.joining(", "));
    }

    private static void face() throws Exception {
        TreeSet<String> has = new TreeSet<>();
        TreeSet<String> names = new TreeSet<>();
        for (Method m : NoiseFields.class.getDeclaredMethods()) {
            if (Modifier.isPrivate(m.getModifiers())) {
                continue;
            }
            holds(m + " is public", Modifier.isPublic(m.getModifiers()));
            has.add(m.getReturnType() + " " + m.getName() + "(" + listed(m.getParameterTypes()) + ") " + listed(m.getExceptionTypes()));
            names.add(m.getName());
        }
        Check.same("the face", has.toString(), dueFace().toString());
        holds("the class is public and final", NoiseFields.class.getModifiers() == (Modifier.PUBLIC | Modifier.FINAL));
        holds("one constructor, without arguments", NoiseFields.class.getDeclaredConstructors().length == 1
            && NoiseFields.class.getConstructors()[0].getParameterCount() == 0);
        List<Class<?>> all = new ArrayList<>(Arrays.asList(NoiseFields.class.getDeclaredClasses()));
        all.add(NoiseFields.class);
        holds("at most twelve classes, not " + all.size(), all.size() <= 12);
        for (Class<?> c : all) {
            members(c, names);
        }
    }

    private static void members(Class<?> c, TreeSet<String> names) {
        int fields = 0;
        for (Field f : c.getDeclaredFields()) {
            boolean constant = Modifier.isStatic(f.getModifiers());
            fields += constant ? 0 : 1;
            holds(f + " is final, if static", !constant || Modifier.isFinal(f.getModifiers()));
            holds(f + " is private in the outer class", c != NoiseFields.class || f.getName().equals("NONE")
                || Modifier.isPrivate(f.getModifiers()));
        }
        holds(c + " has at most twenty fields", fields <= 20);
        for (Method m : c.getDeclaredMethods()) {
            holds(m + " has at most seven parameters", m.getParameterCount() <= 7);
            holds(m + " bears no public name", Modifier.isPublic(m.getModifiers()) || !names.contains(m.getName()));
        }
        if (c != NoiseFields.class) {
            holds(c + " is static", Modifier.isStatic(c.getModifiers()));
        }
    }

    private static void text() throws Exception {
        List<String> lines = Files.readAllLines(Path.of("src/main/java/NoiseFields.java"));
        int begun = 0;
        for (int i = 0; i < lines.size(); i++) {
            String line = lines.get(i);
            String code = line.replaceAll("//.*", "").replaceAll("^ *(/\\*\\*|\\*).*", "");
            for (String word : FORBIDDEN) {
                holds("line " + (i + 1) + " without " + word, !code.contains(word));
            }
            holds("line " + (i + 1) + " is ASCII and short", line.length() <= 130 && line.chars().allMatch(c -> c < 127));
            boolean method = code.matches(" {4}( {4})?[a-zA-Z][^=;]*\\) *(throws [^{]*)?\\{");
            begun = method ? i : begun;
            if (code.matches(" {4}( {4})?\\}") && begun > 0) {
                holds("the method of line " + (begun + 1) + " is short", i - begun <= 60);
                begun = 0;
            }
        }
        for (String line : lines) {
            holds(line, !line.startsWith("import") || line.equals("import java.util.Arrays;")
                || line.equals("import java.util.NoSuchElementException;"));
        }
    }

    public static void main(String[] args) throws Exception {
        face();
        text();
        Check.end("Rules");
    }
}
