import java.lang.reflect.InvocationTargetException;
import java.lang.reflect.Method;
import java.util.Arrays;
import java.util.Comparator;
import java.util.List;
import java.util.Random;

/** Long runs of calls drawn from fixed seeds, each answer compared with the oracle's. */
public final class RandomRuns {
    private static final String[] NAMES = {"soil", "rest", "same", "loud", "price", "near", "year", "hail", "field"};

    private static final int[] WILD = {Integer.MIN_VALUE, Integer.MAX_VALUE, Integer.MIN_VALUE + 1, -1, -2, -100, 10, 11, 16, 17,
        19, 20, 21, 40, 41, 63, 64, 65, 111111, 123456, 1111111, 2147483640, 65536};

    private final Random random;
    private final NoiseFields x = new NoiseFields();
    private final Oracle o = new Oracle();
    private final String name;
    private final int most;
    private final boolean full;

    private RandomRuns(long seed, int most, boolean full) {
        this.full = full;
        random = new Random(seed);
        name = "seed " + seed;
        this.most = most;
    }

    private int below(int n) {
        return random.nextInt(n);
    }

    private boolean rarely(int n) {
        return below(n) == 0;
    }

    private String blanks() {
        return rarely(4) ? "  ".substring(below(3)) : "";
    }

    private String number(int least, int last) {
        int n = rarely(60) ? last + 1 + below(3) : rarely(60) ? least - 1 : least + below(Math.max(1, last - least + 1));
        String zeros = rarely(30) ? "000".substring(below(4)) : "";
        return " " + blanks() + zeros + Math.max(0, n);
    }

    private String farmText() {
        StringBuilder b = new StringBuilder();
        int fields = full ? 6 : below(most + 1);
        int sounds = full ? 6 : below(most + 1);
        if (rarely(25)) {
            fields = 7;
        }
        for (int i = 0; i < fields; i++) {
            b.append(blanks()).append("field").append(number(0, 9)).append(blanks()).append(";");
        }
        int loudMost = rarely(3) ? 3 : 9;
        for (int i = 0; i < sounds; i++) {
            b.append("sound").append(number(0, 63)).append(number(1, loudMost)).append(number(0, rarely(3) ? 3 : 99)).append(";");
            if (rarely(3)) {
                b.append(orderText(i + 1));
            }
        }
        int orders = sounds == 0 ? 0 : rarely(8) ? 10 : below(6);
        for (int i = 0; i < orders; i++) {
            b.append(orderText(sounds));
        }
        int others = below(6);
        for (int i = 0; i < others; i++) {
            switch (below(4)) {
                case 0:
                    b.append("barn").append(number(0, 99));
                    break;
                case 1:
                    b.append("spoil").append(number(0, 8));
                    break;
                case 2:
                    b.append("hail").append(number(1, rarely(2) ? 5 : 40));
                    break;
                default:
                    b.append("cross").append(number(0, 4));
            }
            b.append(blanks()).append(";");
        }
        return b.append(blanks()).toString();
    }

    private String orderText(int sounds) {
        return "order" + number(1, rarely(3) ? 40 : 5) + number(0, sounds - 1) + number(1, rarely(2) ? 5 : 99) + number(0, 9999) + ";";
    }

    private String lawText(int depth) {
        StringBuilder b = new StringBuilder(blanks());
        int parts = 1 + below(depth > 2 ? 2 : 3);
        for (int i = 0; i < parts; i++) {
            if (i > 0) {
                b.append(blanks()).append("+-*/".charAt(below(4))).append(blanks());
            }
            int kind = below(depth > 6 ? 6 : 9);
            if (kind < 4) {
                b.append(NAMES[below(9)]);
            } else if (kind < 6) {
                b.append(rarely(40) ? 999 + below(3) : rarely(5) ? below(1000) : below(12));
            } else if (kind == 6) {
                b.append("(").append(lawText(depth + 1)).append(")");
            } else {
                b.append(kind == 7 ? "least" : "most").append(blanks()).append("[").append(lawText(depth + 1)).append(blanks())
                    .append(",").append(lawText(depth + 1)).append("]");
            }
        }
        return b.append(blanks()).toString();
    }

    private String workText(int depth) {
        StringBuilder b = new StringBuilder();
        int steps = below(depth > 1 ? 3 : 7);
        int fields = o.farm.fields.size();
        int sounds = o.farm.sounds.size();
        for (int i = 0; i < steps; i++) {
            int kind = below(depth > 6 ? 8 : 9);
            b.append(blanks());
            if (kind < 3 && fields > 0 && sounds > 0) {
                b.append("sow").append(number(0, fields - 1)).append(number(0, sounds - 1));
            } else if (kind == 3 && fields > 0) {
                b.append("clear").append(number(0, fields - 1));
            } else if (kind == 4 && sounds > 0) {
                b.append("sell").append(number(0, sounds - 1)).append(number(1, rarely(2) ? 3 : 99));
            } else if (kind < 8) {
                b.append("year");
            } else {
                b.append("again").append(number(0, rarely(2) ? 3 : 20)).append(blanks()).append("[").append(workText(depth + 1)).append("]");
            }
            b.append(blanks()).append(";");
        }
        return b.append(blanks()).toString();
    }

    private String bookText() {
        StringBuilder b = new StringBuilder();
        int fields = o.farm.fields.size();
        int sounds = o.farm.sounds.size();
        int[] row = new int[6];
        for (int f = 0; f < fields; f++) {
            row[f] = sounds == 0 ? -1 : below(sounds + 1) - 1;
        }
        int from = below(6);
        int lines = below(4);
        for (int i = 0; i < lines && fields > 0; i++) {
            int f = rarely(40) ? below(7) : (from + i) % fields;
            int loud = 0;
            for (int g = 0; g < fields; g++) {
                loud += row[g] < 0 ? 0 : 60 * o.farm.sounds.get(row[g])[1] / (1 + Math.abs(f - g));
            }
            b.append(blanks()).append(f).append(" ").append(rarely(30) ? below(10100) : loud).append(blanks()).append(";");
        }
        return b.append(blanks()).toString();
    }

    private String spoilt(String text) {
        if (!rarely(6)) {
            return text;
        }
        int at = below(text.length() + 1);
        String signs = "0123456789;;[](),+-*/ abcdefghijklmnopqrstuvwxyz\u0000\u00ff\u007f\u00e1";
        String sign = String.valueOf(signs.charAt(below(signs.length())));
        switch (below(4)) {
            case 0:
                return text.substring(0, at);
            case 1:
                return text.substring(0, at) + sign + text.substring(at);
            case 2:
                return text.substring(0, at) + sign + (at < text.length() ? text.substring(at + 1) : "");
            default:
                return text.substring(0, at) + (at < text.length() ? text.substring(at + 1) : "");
        }
    }

    private void compare(String call, Check.Call mine, Check.Call due) {
        Check.same(name + ": " + call, Check.outcome(mine), Check.outcome(due));
    }

    private void feedBoth(String text) {
        for (int at = 0; at < text.length(); at += 20) {
            int[] n = new int[5];
            for (int i = 0; i < 20; i++) {
                n[i / 4] = n[i / 4] << 8 | (at + i < text.length() ? text.charAt(at + i) : 0);
            }
            compare("feed", () -> x.feed(n[0], n[1], n[2], n[3], n[4]), () -> o.feed(n));
        }
    }

    private void tell(int kind, String text) {
        if (rarely(30)) {
            feedBoth("left over");
        }
        feedBoth(text);
        int n = rarely(50) ? below(700) - 20 : text.length();
        String call = "'" + text + "' told by ";
        switch (kind) {
            case 0:
                compare(call + "farm(" + n + ")", () -> x.farm(n), () -> o.farm(n));
                break;
            case 1:
                compare(call + "law(" + n + ")", () -> x.law(n), () -> o.law(n));
                break;
            case 2:
                compare(call + "work(" + n + ")", () -> x.work(n), () -> o.work(n));
                break;
            default:
                compare(call + "book(" + n + ")", () -> x.book(n), () -> o.book(n));
        }
        compare("fault", () -> x.fault(), () -> o.fault);
    }

    private int what(int last) {
        return rarely(12) ? below(30) - 10 : below(last + 1);
    }

    private void askAll() {
        for (int w = -1; w <= 9; w++) {
            int v = w;
            compare("told " + v, () -> x.told(v), () -> o.told(v));
            for (int i = -1; i <= 10; i++) {
                int j = i;
                compare("field " + j + " " + v, () -> x.field(j, v), () -> o.field(j, v));
                compare("sound " + j + " " + v, () -> x.sound(j, v), () -> o.sound(j, v));
                compare("order " + j + " " + v, () -> x.order(j, v), () -> o.order(j, v));
                compare("yields " + j + " " + v, () -> x.yields(j, v), () -> o.yields(j, v));
            }
            compare("sums " + v, () -> x.sums(v), () -> o.sums(v));
            compare("ahead " + v, () -> x.ahead(v), () -> o.ahead(v));
            compare("loud " + v, () -> x.loud(v), () -> o.loud(v));
        }
        compare("drowned", () -> x.drowned(), () -> o.drowned());
        for (int w = -1; w <= 3; w++) {
            int v = w;
            compare("status " + v, () -> x.status(v), () -> o.status(v));
            compare("count " + v, () -> x.count(v), () -> o.count(v));
        }
    }

    private void askWhole(int kind) {
        int w = what(1);
        int f = what(Math.max(0, o.farm.fields.size() - 1));
        int s = what(Math.max(0, o.farm.sounds.size() - 1));
        switch (kind) {
            case 0:
                compare("best " + w, () -> x.best(w), () -> o.best(w));
                break;
            case 1:
                int n = what(4) + 1;
                if (most < 6 || n < 5) {
                    compare("turnsOf " + f + " " + n + " " + w, () -> x.turnsOf(f, n, w), () -> o.turnsOf(f, n, w));
                }
                break;
            case 2:
                int told = setsText();
                compare("sets " + told + " " + w, () -> x.sets(told, w), () -> o.sets(told, w));
                break;
            case 3:
                compare("heard " + w, () -> x.heard(w), () -> o.heard(w));
                break;
            case 4:
                compare("sure " + f, () -> x.sure(f), () -> o.sure(f));
                break;
            case 5:
                compare("ear " + w, () -> x.ear(w), () -> o.ear(w));
                break;
            default:
                compare("against " + f + " " + w, () -> x.against(f, w), () -> o.against(f, w));
                compare("keeps " + s + " " + (kind - 6), () -> x.keeps(s, kind - 6), () -> o.keeps(s, kind - 6));
        }
    }

    private int setsText() {
        int sounds = o.farm.sounds.size();
        int many = below(o.farm.fields.size() + 1);
        int told = 0;
        for (int i = 0; i < many; i++) {
            told = told * 10 + (rarely(40) || sounds == 0 ? below(10) : 1 + below(sounds));
        }
        return rarely(30) ? random.nextInt() : told;
    }

    private void askBreeding() {
        int a = rarely(10) ? below(200) - 60 : below(64);
        int b = rarely(10) ? below(200) - 60 : below(64);
        compare("crossing " + a + " " + b, () -> x.crossing(a, b), () -> o.crossing(a, b));
        compare("generation " + a, () -> x.generation(a), () -> o.generation(a));
        compare("rows " + b, () -> x.rows(b), () -> o.rows(b));
        compare("rows " + b % 5, () -> x.rows(b % 5), () -> o.rows(b % 5));
        compare("stable", () -> x.stable(), () -> o.stable());
    }

    private void askBlight() {
        int seed = rarely(5) ? Integer.MAX_VALUE - below(3) : random.nextInt();
        int many = what(19) + 1;
        int q = what(16);
        int years = what(19) + 1;
        int w = what(2);
        compare("span", () -> x.span(seed, many, q, years, w), () -> o.span(seed, many, q, years, w));
        compare("blight", () -> x.blight(seed, q, years, w), () -> o.blight(seed, q, years, w));
    }

    private void askWould() {
        int[] n = {what(9), what(9), what(1), what(8) + 1, what(18), what(1)};
        compare("would", () -> x.would(n[0], n[1], n[2], n[3], n[4], n[5]), () -> o.would(n[0], n[1], n[2], n[3], n[4], n[5]));
    }

    /** Any call but those of texts, with arguments from far outside too. */
    private void askWildly() {
        Method[] all = Arrays.stream(NoiseFields.class.getMethods())
            .filter(m -> m.getDeclaringClass() == NoiseFields.class)
            .filter(m -> !List.of("feed", "farm", "law", "work", "book", "fault").contains(m.getName()))
            .sorted(Comparator.comparing(Method::getName)).toArray(Method[]::new);
        Method mine = all[below(all.length)];
        boolean dear = List.of("best", "turnsOf", "sets", "heard", "sure", "ear").contains(mine.getName());
        if (most > 4 && dear) {
            return;
        }
        Object[] n = new Object[mine.getParameterCount()];
        for (int i = 0; i < n.length; i++) {
            n[i] = rarely(3) ? WILD[below(WILD.length)] : below(7);
        }
        try {
            Method due = Oracle.class.getDeclaredMethod(mine.getName(), mine.getParameterTypes());
            compare(mine.getName() + Arrays.toString(n), () -> call(mine, x, n), () -> call(due, o, n));
        } catch (NoSuchMethodException e) {
            throw new IllegalStateException(e);
        }
    }

    private static long call(Method method, Object on, Object[] n) {
        try {
            return ((Number) method.invoke(on, n)).longValue();
        } catch (InvocationTargetException e) {
            if (e.getCause() instanceof RuntimeException) {
                throw (RuntimeException) e.getCause();
            }
            throw new IllegalStateException(e);
        } catch (IllegalAccessException e) {
            throw new IllegalStateException(e);
        }
    }

    private void run(int turns, int wholeEach) {
        tell(0, farmText());
        for (int i = 0; i < turns; i++) {
            int kind = below(20);
            askWildly();
            if (kind == 0 && rarely(3)) {
                tell(0, spoilt(farmText()));
            } else if (kind < 3) {
                tell(1, spoilt(lawText(0)));
            } else if (kind < 7) {
                tell(2, spoilt(workText(0)));
            } else if (kind < 9) {
                tell(3, spoilt(bookText()));
            } else if (kind == 9) {
                compare("undo", () -> x.undo(), () -> o.undo());
            } else if (kind == 10) {
                compare("image", () -> x.image(), () -> o.image());
            } else if (kind == 11) {
                compare("restore", () -> x.restore(), () -> o.restore());
            } else if (kind < 16) {
                if (rarely(wholeEach)) {
                    askWhole(below(20));
                }
            } else if (kind == 16) {
                askBreeding();
            } else if (kind == 17) {
                askBlight();
            } else if (kind == 18) {
                askWould();
            } else {
                askAll();
            }
        }
        askAll();
    }

    /** Only what is planned, bred and foreseen, with laws to which neighbours and years matter. */
    private void plan(int turns) {
        tell(0, farmText());
        for (int i = 0; i < turns; i++) {
            String law = rarely(2) ? lawText(0) : "(" + lawText(3) + ")+near*" + below(9) + "/" + (1 + below(9)) + "-most[near,loud]+" + below(30);
            tell(1, law.length() > 150 ? "near" : law);
            tell(2, workText(0));
            tell(3, bookText());
            for (int what = 0; what <= 1; what++) {
                int w = what;
                compare("best " + w, () -> x.best(w), () -> o.best(w));
                compare("ear " + w, () -> x.ear(w), () -> o.ear(w));
                compare("heard " + w, () -> x.heard(w), () -> o.heard(w));
                compare("against " + w, () -> x.against(0, w), () -> o.against(0, w));
                compare("turnsOf " + w, () -> x.turnsOf(0, 3, w), () -> o.turnsOf(0, 3, w));
                int told = setsText();
                compare("sets " + told + " " + w, () -> x.sets(told, w), () -> o.sets(told, w));
            }
            askWhole(1);
            askWhole(4);
            askBlight();
        }
    }

    public static void main(String[] args) {
        int factor = args.length > 0 ? Integer.parseInt(args[0]) : 1;
        for (int i = 0; i < 600 * factor; i++) {
            new RandomRuns(1000 + i, 1 + i % 4, false).run(120, 1);
        }
        for (int i = 0; i < 40 * factor; i++) {
            new RandomRuns(9000000 + i, 6, false).run(120, 4);
        }
        for (int i = 0; i < 100 * factor; i++) {
            new RandomRuns(300000 + i, 6, true).run(120, 60);
        }
        for (int i = 0; i < 300 * factor; i++) {
            new RandomRuns(500000 + i, 2 + i % 3, false).plan(8);
        }
        for (int i = 0; i < 10 * factor; i++) {
            new RandomRuns(700000 + i, 6, true).plan(3);
        }
        Check.end("RandomRuns");
    }
}
