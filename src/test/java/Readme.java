import java.lang.reflect.Method;
import java.lang.reflect.Modifier;
import java.nio.file.Files;
import java.nio.file.Path;
import java.util.Arrays;
import java.util.List;
import java.util.stream.Collectors;

/** README.md: its example, done here line by line as it stands there, and whether it names all calls. */
public final class Readme {
    private static int lines = 0;

    private Readme() {
    }

    private static void is(int got, int want) {
        lines++;
        Check.due("line " + lines + " of the example", got, want);
    }

    // The page has the lines of the next two methods, but for what makes them methods.
    static int feed(NoiseFields x, String text) {
        for (int at = 0; at < text.length(); at += 20) {
            int[] n = new int[5];
            for (int i = 0; i < 20; i++) {
                n[i / 4] = n[i / 4] << 8 | (at + i < text.length() ? text.charAt(at + i) : 0);
            }
            x.feed(n[0], n[1], n[2], n[3], n[4]);
        }
        return text.length();
    }

    private static void example() {
        NoiseFields x = new NoiseFields();
        String farm = "field 4; field 0; field 7; sound 5 2 3; sound 12 6 9; order 1 0 4 50; barn 15; spoil 2;";
        is(x.farm(feed(x, farm)), 3);
        is(x.work(feed(x, "sow 0 0; sow 2 1; year; sell 1 3;")), 3);
        is(x.told(7), 1);
        is(x.sums(0), 29);
        is(x.sums(3), 14);
        is(x.order(0, 4), 1);
        is(x.told(4), 50);
        is(x.sound(0, 3), 7);
        is(x.loud(1), 240);
        is(x.law(feed(x, "least[soil, 5] * (1 - hail) + rest")), 1);
        is(x.yields(1, 1), 10);
        is(x.book(feed(x, "1 240;")), 1);
        is(x.heard(0), 3);
        is(x.heard(1), 102);
        is(x.work(feed(x, "sow 3 0;")), -8);
        is(x.fault(), 4);
        is(x.undo(), 0);
        is(x.told(3), 1);
    }

    /** Each line of code that the page has stands in this file, in the same order, so that what is done here is what it says. */
    private static void sameLines(List<String> page) throws Exception {
        List<String> here = Files.readAllLines(Path.of("src/test/java/Readme.java"));
        boolean code = false;
        int at = 0;
        for (String line : page) {
            if (line.startsWith("```")) {
                code = line.equals("```java");
                continue;
            }
            String wanted = line.replaceAll(" *//.*", "").trim();
            if (!code || wanted.isEmpty()) {
                continue;
            }
            int from = at;
            while (at < here.size() && !here.get(at).trim().equals(wanted)) {
                at++;
            }
            Check.due("'" + wanted + "' is done here", at < here.size() ? 1 : 0, 1);
            at = at < here.size() ? at + 1 : from;
        }
    }

    private static void allCalls(List<String> page) {
        List<Method> calls = Arrays.stream(NoiseFields.class.getDeclaredMethods())
            .filter(m -> Modifier.isPublic(m.getModifiers())).collect(Collectors.toList());
        Check.due("calls of the face", calls.size(), 35);
        for (Method call : calls) {
            int commas = Math.max(0, call.getParameterCount() - 1);
            String arguments = call.getParameterCount() == 0 ? "" : "\\w+(, \\w+){" + commas + "}";
            String row = "\\| `" + call.getName() + "\\(" + arguments + "\\)` \\| .+ \\|";
            Check.due("rows for " + call.getName(), page.stream().filter(line -> line.matches(row)).count(), 1);
        }
        for (String word : List.of(".ci/run", "javac", "NoSuchElementException", "IllegalArgumentException", "FAULT",
            "again N", "least[E, E]", "order Y K N P", "F N;")) {
            Check.due("'" + word + "' is told", page.stream().anyMatch(line -> line.contains(word)) ? 1 : 0, 1);
        }
    }

    public static void main(String[] args) throws Exception {
        List<String> page = Files.readAllLines(Path.of("README.md"));
        example();
        sameLines(page);
        allCalls(page);
        Check.end("Readme");
    }
}
