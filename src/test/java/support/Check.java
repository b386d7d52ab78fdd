import java.nio.charset.StandardCharsets;
import java.util.NoSuchElementException;

/** What the project's tests share: telling texts to an object, and comparing answers with those that are due. */
final class Check {
    interface Call {
        long answer();
    }

    private static int wrong = 0;
    private static int looked = 0;

    private Check() {
    }

    static void due(String what, long got, long want) {
        looked++;
        if (got != want) {
            wrong++;
            System.out.println(what + " answered " + got + ", due is " + want);
        }
    }

    /** The answer, or what was thrown: 'm' NoSuchElementException, 'w' IllegalArgumentException, '!' anything else. */
    static String outcome(Call call) {
        try {
            return Long.toString(call.answer());
        } catch (NoSuchElementException e) {
            return e.getClass() == NoSuchElementException.class ? "m" : "!" + e;
        } catch (IllegalArgumentException e) {
            return e.getClass() == IllegalArgumentException.class ? "w" : "!" + e;
        } catch (RuntimeException e) {
            return "!" + e;
        }
    }

    static void same(String what, String got, String want) {
        looked++;
        if (!got.equals(want)) {
            wrong++;
            System.out.println(what + " came out as " + got + ", due is " + want);
        }
    }

    static void missing(String what, Call call) {
        same(what, outcome(call), "m");
    }

    static void refused(String what, Call call) {
        same(what, outcome(call), "w");
    }

    /** Feeds a text, padded to whole twenties; answers how many bytes it has. */
    static int feed(NoiseFields x, String text) {
        byte[] bytes = text.getBytes(StandardCharsets.ISO_8859_1);
        for (int at = 0; at < bytes.length; at += 20) {
            int[] n = new int[5];
            for (int i = 0; i < 20; i++) {
                int b = at + i < bytes.length ? bytes[at + i] & 255 : 0;
                n[i / 4] = n[i / 4] << 8 | b;
            }
            x.feed(n[0], n[1], n[2], n[3], n[4]);
        }
        return bytes.length;
    }

    static int farm(NoiseFields x, String text) {
        return x.farm(feed(x, text));
    }

    static int law(NoiseFields x, String text) {
        return x.law(feed(x, text));
    }

    static int work(NoiseFields x, String text) {
        return x.work(feed(x, text));
    }

    static int book(NoiseFields x, String text) {
        return x.book(feed(x, text));
    }

    static NoiseFields farmed(String text) {
        NoiseFields x = new NoiseFields();
        int fields = farm(x, text);
        if (fields < 0) {
            due("farm of " + text, fields, 0);
        }
        return x;
    }

    static void end(String name) {
        System.out.println(name + ": " + looked + " answers looked at, " + wrong + " wrong");
        if (wrong != 0 || looked == 0) {
            System.exit(1);
        }
    }
}
