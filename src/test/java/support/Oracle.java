import java.util.ArrayList;
import java.util.Arrays;
import java.util.HashMap;
import java.util.List;
import java.util.Map;
import java.util.NoSuchElementException;
import java.util.TreeSet;

/** The document once more, by trying all ways and without any thrift: what the class is compared with. */
final class Oracle {
    static final class Fault extends Exception {
        final int kind;
        final int place;

        Fault(int kind, int place) {
            this.kind = kind;
            this.place = place;
        }
    }

    interface Node {
        int value(Map<String, Integer> given);
    }

    static final class Told {
        List<int[]> fields = new ArrayList<>();
        List<int[]> sounds = new ArrayList<>();
        List<int[]> orders = new ArrayList<>();
        TreeSet<Integer> hail = new TreeSet<>();
        int barn = 20;
        int spoil = 0;
        int cross = 0;
    }

    static final class State {
        int year = 1;
        int pence = 0;
        int[] soil = new int[6];
        int[] lastYear = new int[6]; // 0: never
        int[] sown = {-1, -1, -1, -1, -1, -1};
        int[] last = {-1, -1, -1, -1, -1, -1};
        int[][] bales = new int[6][6]; // barn, grown, sold, spoilt, lost, delivered
        int[] order = new int[10];

        State copy() {
            State s = new State();
            s.year = year;
            s.pence = pence;
            s.soil = soil.clone();
            s.lastYear = lastYear.clone();
            s.sown = sown.clone();
            s.last = last.clone();
            s.order = order.clone();
            for (int i = 0; i < 6; i++) {
                s.bales[i] = bales[i].clone();
            }
            return s;
        }

        int rest(int field) {
            return lastYear[field] == 0 ? 9 : Math.min(9, year - 1 - lastYear[field]);
        }
    }

    static final class Picture {
        State state;
        List<State> undo;
        String tape;
    }

    final class Text {
        final String s;
        int at = 0;

        Text(String s) {
            this.s = s;
        }

        char peek() {
            while (at < s.length() && s.charAt(at) == ' ') {
                at++;
            }
            return at < s.length() ? s.charAt(at) : '\uffff';
        }

        boolean end() {
            return peek() == '\uffff';
        }

        void need(char c) throws Fault {
            if (peek() != c) {
                throw new Fault(1, at);
            }
            at++;
        }

        int number(int least, int most) throws Fault {
            peek();
            int from = at;
            while (at < s.length() && s.charAt(at) >= '0' && s.charAt(at) <= '9') {
                at++;
            }
            if (from == at) {
                throw new Fault(1, at);
            }
            java.math.BigInteger n = new java.math.BigInteger(s.substring(from, at));
            if (n.bitLength() > 30 || n.intValue() < least || n.intValue() > most) {
                throw new Fault(2, from);
            }
            return n.intValue();
        }

        String word() {
            peek();
            int from = at;
            while (at < s.length() && s.charAt(at) >= 'a' && s.charAt(at) <= 'z') {
                at++;
            }
            return s.substring(from, at);
        }
    }

    String tape = "";
    Told farm = new Told();
    State now = new State();
    Node law = usual();
    List<int[]> book = new ArrayList<>();
    List<State> undo = new ArrayList<>();
    List<Picture> images = new ArrayList<>();
    int fault = -1;
    int refusedSteps = 0;
    int missing = 0;
    int wrong = 0;
    private int begun;
    private int done;
    private int refused;

    private static Node usual() {
        return g -> g.get("soil") + g.get("rest") - g.get("near") / 4;
    }

    private int n() {
        return farm.fields.size();
    }

    private int k() {
        return farm.sounds.size();
    }

    private void arg(boolean fine) {
        if (!fine) {
            wrong++;
            throw new IllegalArgumentException();
        }
    }

    private void there(boolean fine) {
        if (!fine) {
            missing++;
            throw new NoSuchElementException();
        }
    }

    private void isField(int f) {
        there(f >= 0 && f < n());
    }

    private void isSound(int s) {
        there(s >= 0 && s < k());
    }

    int feed(int... numbers) {
        if (tape.length() + 20 > 600) {
            return -1;
        }
        StringBuilder b = new StringBuilder(tape);
        for (int x : numbers) {
            b.append((char) (x >>> 24)).append((char) (x >>> 16 & 255)).append((char) (x >>> 8 & 255)).append((char) (x & 255));
        }
        tape = b.toString();
        return tape.length();
    }

    private Text take(int n, int most) {
        arg(n >= 0 && n <= most && n <= tape.length());
        Text t = new Text(tape.substring(0, n));
        tape = "";
        fault = -1;
        return t;
    }

    private int failed(Fault f) {
        fault = f.place;
        return f.kind - 10;
    }

    int farm(int n) {
        Text t = take(n, 600);
        Told told = new Told();
        int clauses = 0;
        int hails = 0;
        try {
            while (!t.end()) {
                int from = t.at;
                String w = t.word();
                boolean many = ++clauses > 60;
                switch (w) {
                    case "field":
                        many |= told.fields.size() == 6;
                        break;
                    case "sound":
                        many |= told.sounds.size() == 6;
                        break;
                    case "order":
                        many |= told.orders.size() == 10;
                        break;
                    case "hail":
                        many |= ++hails > 6;
                        break;
                    case "barn":
                    case "spoil":
                    case "cross":
                        break;
                    default:
                        throw new Fault(1, from);
                }
                if (many) {
                    throw new Fault(3, from);
                }
                switch (w) {
                    case "field":
                        told.fields.add(new int[] {t.number(0, 9)});
                        break;
                    case "sound":
                        told.sounds.add(new int[] {t.number(0, 63), t.number(1, 9), t.number(0, 99)});
                        break;
                    case "order":
                        told.orders.add(new int[] {t.number(1, 40), t.number(0, told.sounds.size() - 1),
                            t.number(1, 99), t.number(0, 9999)});
                        break;
                    case "hail":
                        told.hail.add(t.number(1, 40));
                        break;
                    case "barn":
                        told.barn = t.number(0, 99);
                        break;
                    case "spoil":
                        told.spoil = t.number(0, 8);
                        break;
                    default:
                        told.cross = t.number(0, 4);
                }
                t.need(';');
            }
        } catch (Fault f) {
            return failed(f);
        }
        farm = told;
        now = new State();
        for (int f = 0; f < n(); f++) {
            now.soil[f] = told.fields.get(f)[0];
        }
        law = usual();
        book = new ArrayList<>();
        undo = new ArrayList<>();
        images = new ArrayList<>();
        refusedSteps = 0;
        return n();
    }

    int law(int n) {
        Text t = take(n, 150);
        try {
            Node told = sum(t, 0);
            if (!t.end()) {
                throw new Fault(1, t.at);
            }
            law = told;
        } catch (Fault f) {
            return failed(f);
        }
        return 1;
    }

    private Node sum(Text t, int open) throws Fault {
        Node a = product(t, open);
        while (t.peek() == '+' || t.peek() == '-') {
            char c = t.peek();
            t.at++;
            Node l = a;
            Node r = product(t, open);
            a = c == '+' ? g -> l.value(g) + r.value(g) : g -> l.value(g) - r.value(g);
        }
        return a;
    }

    private Node product(Text t, int open) throws Fault {
        Node a = unit(t, open);
        while (t.peek() == '*' || t.peek() == '/') {
            char c = t.peek();
            t.at++;
            Node l = a;
            Node r = unit(t, open);
            a = c == '*' ? g -> l.value(g) * r.value(g) : g -> r.value(g) == 0 ? 0 : l.value(g) / r.value(g);
        }
        return a;
    }

    private Node unit(Text t, int open) throws Fault {
        char c = t.peek();
        int from = t.at;
        if (c >= '0' && c <= '9') {
            int v = t.number(0, 999);
            return g -> v;
        }
        if (c == '(') {
            if (open == 6) {
                throw new Fault(3, from);
            }
            t.at++;
            Node a = sum(t, open + 1);
            t.need(')');
            return a;
        }
        String w = t.word();
        if (w.equals("least") || w.equals("most")) {
            if (open == 6) {
                throw new Fault(3, from);
            }
            t.need('[');
            Node a = sum(t, open + 1);
            t.need(',');
            Node b = sum(t, open + 1);
            t.need(']');
            return w.equals("least") ? g -> Math.min(a.value(g), b.value(g)) : g -> Math.max(a.value(g), b.value(g));
        }
        if (!List.of("soil", "rest", "same", "loud", "price", "near", "year", "hail", "field").contains(w)) {
            throw new Fault(1, from);
        }
        return g -> g.get(w);
    }

    private int bales(int soil, int rest, int same, int loud, int price, int near, int year, int hail, int field) {
        Map<String, Integer> g = new HashMap<>();
        g.put("soil", soil);
        g.put("rest", rest);
        g.put("same", same);
        g.put("loud", loud);
        g.put("price", price);
        g.put("near", near);
        g.put("year", year);
        g.put("hail", hail);
        g.put("field", field);
        return Math.max(0, Math.min(99, law.value(g)));
    }

    private int loudOf(int sound) {
        return sound < 0 ? 0 : farm.sounds.get(sound)[1];
    }

    private int near(int[] sown, int f) {
        return (f > 0 ? loudOf(sown[f - 1]) : 0) + (f + 1 < n() ? loudOf(sown[f + 1]) : 0);
    }

    private int loudness(int[] sown, int f) {
        int all = 0;
        for (int g = 0; g < n(); g++) {
            if (sown[g] >= 0) {
                all += 60 * loudOf(sown[g]) / (1 + Math.abs(f - g));
            }
        }
        return all;
    }

    private int grown(State s, int f, int sound) {
        int[] p = farm.sounds.get(sound);
        return bales(s.soil[f], s.rest(f), s.last[f] == sound ? 1 : 0, p[1], p[2], near(s.sown, f), s.year,
            farm.hail.contains(s.year) ? 1 : 0, f);
    }

    private int[] reap(State s) {
        int[] got = new int[6];
        for (int f = 0; f < n(); f++) {
            got[f] = s.sown[f] < 0 ? 0 : grown(s, f, s.sown[f]);
        }
        for (int f = 0; f < n(); f++) {
            if (s.sown[f] < 0) {
                s.soil[f] = Math.min(9, s.soil[f] + 1);
            } else {
                s.soil[f] = Math.max(0, s.soil[f] - 1);
                s.lastYear[f] = s.year;
                s.last[f] = s.sown[f];
            }
        }
        return got;
    }

    private void year(State s) {
        int[] got = reap(s);
        for (int f = 0; f < n(); f++) {
            if (s.sown[f] >= 0) {
                int[] b = s.bales[s.sown[f]];
                for (int i = 0; i < got[f]; i++) {
                    int all = 0;
                    for (int[] one : s.bales) {
                        all += one[0];
                    }
                    b[1]++;
                    b[all < farm.barn ? 0 : 4]++;
                }
            }
        }
        for (int o = 0; o < farm.orders.size(); o++) {
            int[] told = farm.orders.get(o);
            if (told[0] == s.year) {
                int[] b = s.bales[told[1]];
                if (b[0] >= told[2]) {
                    b[0] -= told[2];
                    b[5] += told[2];
                    s.pence += told[3];
                    s.order[o] = 1;
                } else {
                    s.order[o] = 2;
                }
            }
        }
        for (int[] b : s.bales) {
            int bad = b[0] * farm.spoil / 8;
            b[0] -= bad;
            b[3] += bad;
        }
        s.year++;
    }

    interface Step {
        void run();
    }

    private List<Step> steps(Text t, int open) throws Fault {
        List<Step> all = new ArrayList<>();
        while (!t.end() && t.peek() != ']') {
            int from = t.at;
            String w = t.word();
            if (w.equals("sow")) {
                int f = t.number(0, n() - 1);
                int s = t.number(0, k() - 1);
                all.add(() -> {
                    now.sown[f] = s;
                    done++;
                });
            } else if (w.equals("clear")) {
                int f = t.number(0, n() - 1);
                all.add(() -> {
                    if (now.sown[f] < 0) {
                        refused++;
                    } else {
                        now.sown[f] = -1;
                        done++;
                    }
                });
            } else if (w.equals("sell")) {
                int s = t.number(0, k() - 1);
                int m = t.number(1, 99);
                all.add(() -> {
                    if (now.bales[s][0] < m) {
                        refused++;
                    } else {
                        now.bales[s][0] -= m;
                        now.bales[s][2] += m;
                        now.pence += m * farm.sounds.get(s)[2];
                        done++;
                    }
                });
            } else if (w.equals("year")) {
                all.add(() -> {
                    year(now);
                    done++;
                });
            } else if (w.equals("again")) {
                if (open == 6) {
                    throw new Fault(3, from);
                }
                int m = t.number(0, 20);
                t.need('[');
                List<Step> inner = steps(t, open + 1);
                t.need(']');
                all.add(() -> {
                    for (int i = 0; i < m; i++) {
                        run(inner);
                    }
                });
            } else {
                throw new Fault(1, from);
            }
            t.need(';');
        }
        return all;
    }

    private void run(List<Step> steps) {
        for (Step s : steps) {
            if (begun < 200) {
                begun++;
                s.run();
            }
        }
    }

    int work(int n) {
        arg(n >= 0 && n <= 200 && n <= tape.length());
        if (undo.size() == 20) {
            tape = "";
            fault = -1;
            return -20;
        }
        Text t = take(n, 200);
        List<Step> steps;
        try {
            steps = steps(t, 0);
            if (!t.end()) {
                throw new Fault(1, t.at);
            }
        } catch (Fault f) {
            return failed(f);
        }
        undo.add(now.copy());
        begun = 0;
        done = 0;
        refused = 0;
        run(steps);
        refusedSteps = refused;
        return done;
    }

    int book(int n) {
        Text t = take(n, 100);
        List<int[]> told = new ArrayList<>();
        try {
            while (!t.end()) {
                int from = t.at;
                int f = t.number(0, n() - 1);
                for (int[] line : told) {
                    if (line[0] == f) {
                        throw new Fault(2, from);
                    }
                }
                told.add(new int[] {f, t.number(0, 9999)});
                t.need(';');
            }
        } catch (Fault f) {
            return failed(f);
        }
        book = told;
        return told.size();
    }

    int undo() {
        if (undo.isEmpty()) {
            return -1;
        }
        now = undo.remove(undo.size() - 1).copy();
        refusedSteps = 0;
        return undo.size();
    }

    private int barn(State s) {
        int all = 0;
        for (int[] b : s.bales) {
            all += b[0];
        }
        return all;
    }

    int told(int what) {
        arg(what >= 0 && what <= 8);
        return new int[] {n(), k(), farm.orders.size(), now.year, now.pence, barn(now), book.size(), refusedSteps, farm.barn}[what];
    }

    int field(int f, int what) {
        isField(f);
        arg(what >= 0 && what <= 4);
        return new int[] {now.soil[f], now.rest(f), now.sown[f], now.last[f], near(now.sown, f)}[what];
    }

    int sound(int s, int what) {
        isSound(s);
        arg(what >= 0 && what <= 8);
        return what < 3 ? farm.sounds.get(s)[what] : now.bales[s][what - 3];
    }

    int order(int o, int what) {
        there(o >= 0 && o < farm.orders.size());
        arg(what >= 0 && what <= 4);
        return what < 4 ? farm.orders.get(o)[what] : now.order[o];
    }

    int yields(int f, int s) {
        isField(f);
        isSound(s);
        return grown(now, f, s);
    }

    int would(int soil, int rest, int same, int loud, int near, int hail) {
        arg(soil >= 0 && soil <= 9 && rest >= 0 && rest <= 9 && (same == 0 || same == 1) && loud >= 1 && loud <= 9
            && near >= 0 && near <= 18 && (hail == 0 || hail == 1));
        return bales(soil, rest, same, loud, 0, near, 0, hail, 0);
    }

    int loud(int f) {
        isField(f);
        return loudness(now.sown, f);
    }

    private boolean anyDrowned(int[] sown, int f) {
        return sown[f] >= 0 && near(sown, f) > 2 * loudOf(sown[f]);
    }

    int drowned() {
        int bits = 0;
        for (int f = 0; f < n(); f++) {
            bits |= anyDrowned(now.sown, f) ? 1 << f : 0;
        }
        return bits;
    }

    int ahead(int what) {
        arg(what >= 0 && what <= 3);
        State s = now.copy();
        year(s);
        int[] d = new int[4];
        for (int i = 0; i < 6; i++) {
            d[0] += s.bales[i][1] - now.bales[i][1];
            d[3] += s.bales[i][4] - now.bales[i][4];
        }
        d[1] = s.pence - now.pence;
        for (int o = 0; o < 10; o++) {
            d[2] += s.order[o] == 2 && now.order[o] == 0 ? 1 : 0;
        }
        return d[what];
    }

    /** All ways to sow, the first ahead. */
    private List<int[]> ways() {
        List<int[]> all = new ArrayList<>();
        int[] row = {-1, -1, -1, -1, -1, -1};
        while (true) {
            all.add(row.clone());
            int f = n() - 1;
            while (f >= 0 && row[f] == k() - 1) {
                row[f--] = -1;
            }
            if (f < 0) {
                return all;
            }
            row[f]++;
        }
    }

    private int digits(int[] row, int many) {
        int d = 0;
        for (int i = 0; i < many; i++) {
            d = d * 10 + row[i] + 1;
        }
        return d;
    }

    int best(int what) {
        arg(what == 0 || what == 1);
        int most = -1;
        int digits = 0;
        State s = now.copy();
        for (int[] row : ways()) {
            s.sown = row;
            int p = 0;
            for (int f = 0; f < n(); f++) {
                p += row[f] < 0 ? 0 : grown(s, f, row[f]) * farm.sounds.get(row[f])[2];
            }
            if (p > most) {
                most = p;
                digits = digits(row, n());
            }
        }
        return what == 0 ? most : digits;
    }

    int turnsOf(int f, int years, int what) {
        isField(f);
        arg(years >= 1 && years <= 5 && (what == 0 || what == 1));
        int all = 1;
        for (int i = 0; i < years; i++) {
            all *= k() + 1;
        }
        int most = -1;
        int digits = 0;
        for (int code = 0; code < all; code++) {
            int[] row = new int[years];
            for (int i = years - 1, c = code; i >= 0; i--, c /= k() + 1) {
                row[i] = c % (k() + 1) - 1;
            }
            State s = now.copy();
            int p = 0;
            for (int sown : row) {
                s.sown[f] = sown;
                p += sown < 0 ? 0 : grown(s, f, sown) * farm.sounds.get(sown)[2];
                reap(s);
                s.year++;
            }
            if (p > most) {
                most = p;
                digits = digits(row, years);
            }
        }
        return what == 0 ? most : digits;
    }

    int sets(int sounds, int what) {
        arg(sounds >= 0 && (what == 0 || what == 1));
        int[] want = new int[6];
        String s = sounds == 0 ? "" : Integer.toString(sounds);
        arg(s.length() <= n());
        for (char c : s.toCharArray()) {
            arg(c - '0' >= 1 && c - '0' <= k());
            want[c - '1']++;
        }
        int many = 0;
        int first = -1;
        for (int[] row : ways()) {
            int[] has = new int[6];
            boolean fine = true;
            for (int f = 0; f < n(); f++) {
                if (row[f] >= 0) {
                    has[row[f]]++;
                }
                fine &= !anyDrowned(row, f);
            }
            if (fine && Arrays.equals(has, want)) {
                first = many++ == 0 ? digits(row, n()) : first;
            }
        }
        return what == 0 ? many : first;
    }

    int crossing(int a, int b) {
        arg(a >= 0 && a < 64 && b >= 0 && b < 64);
        int c = 0;
        for (int bit = 0; bit < 6; bit++) {
            boolean x = (a >> bit & 1) == 1;
            boolean y = (b >> bit & 1) == 1;
            boolean up = (a >> (bit + 5) % 6 & 1) == 1;
            boolean z = farm.cross == 0 ? x != y : farm.cross == 1 ? x && y : farm.cross == 2 ? x || y
                : farm.cross == 3 ? (bit < 3 ? x : y) : up != y;
            c |= z ? 1 << bit : 0;
        }
        return c;
    }

    private TreeSet<Integer> behind(int generations) {
        TreeSet<Integer> rows = new TreeSet<>();
        for (int[] s : farm.sounds) {
            rows.add(s[0]);
        }
        for (int g = 0; g < generations; g++) {
            TreeSet<Integer> more = new TreeSet<>(rows);
            for (int a : rows) {
                for (int b : rows) {
                    more.add(crossing(a, b));
                }
            }
            if (more.equals(rows)) {
                break;
            }
            rows = more;
        }
        return rows;
    }

    int generation(int row) {
        arg(row >= 0 && row < 64);
        for (int g = 0; g <= 64; g++) {
            if (behind(g).contains(row)) {
                return g;
            }
        }
        return -1;
    }

    long rows(int generation) {
        arg(generation >= 0 && generation <= 64);
        long bits = 0;
        for (int r : behind(generation)) {
            bits |= 1L << r;
        }
        return bits;
    }

    int stable() {
        int g = 0;
        while (!behind(g).equals(behind(g + 1))) {
            g++;
        }
        return g;
    }

    private List<int[]> heardWays() {
        List<int[]> left = new ArrayList<>();
        for (int[] row : ways()) {
            boolean fine = true;
            for (int[] line : book) {
                fine &= loudness(row, line[0]) == line[1];
            }
            if (fine) {
                left.add(row);
            }
        }
        return left;
    }

    int heard(int what) {
        arg(what == 0 || what == 1);
        List<int[]> left = heardWays();
        return what == 0 ? left.size() : left.isEmpty() ? -1 : digits(left.get(0), n());
    }

    int sure(int f) {
        isField(f);
        TreeSet<Integer> all = new TreeSet<>();
        for (int[] row : heardWays()) {
            all.add(row[f]);
        }
        return all.isEmpty() ? -1 : all.size() > 1 ? -3 : all.first() < 0 ? -2 : all.first();
    }

    int ear(int what) {
        arg(what == 0 || what == 1);
        List<int[]> left = heardWays();
        int at = -1;
        int fewest = -1;
        for (int f = 0; f < n(); f++) {
            Map<Integer, Integer> many = new HashMap<>();
            int worst = 0;
            for (int[] row : left) {
                worst = Math.max(worst, many.merge(loudness(row, f), 1, Integer::sum));
            }
            if (at < 0 || worst < fewest) {
                at = f;
                fewest = worst;
            }
        }
        return what == 0 ? at : fewest;
    }

    int against(int f, int what) {
        isField(f);
        arg(what == 0 || what == 1);
        int[][] pay = new int[k()][k()];
        for (int a = 0; a < k(); a++) {
            int[] p = farm.sounds.get(a);
            int full = p[2] * bales(now.soil[f], 0, 0, p[1], p[2], 0, now.year, farm.hail.contains(now.year) ? 1 : 0, f);
            for (int b = 0; b < k(); b++) {
                pay[a][b] = a == b ? full / 2 : full;
            }
        }
        int many = 0;
        int first = -1;
        for (int a = 0; a < k(); a++) {
            for (int b = 0; b < k(); b++) {
                boolean rest = true;
                for (int c = 0; c < k(); c++) {
                    rest &= pay[c][b] <= pay[a][b] && pay[c][a] <= pay[b][a];
                }
                if (rest) {
                    first = many++ == 0 ? 10 * a + b : first;
                }
            }
        }
        return what == 0 ? many : first;
    }

    int keeps(int s, int years) {
        isSound(s);
        arg(years >= 0 && years <= 40);
        int b = now.bales[s][0];
        for (int i = 0; i < years; i++) {
            b -= b * farm.spoil / 8;
        }
        return b;
    }

    private int[] blighted(int seed, int q, int years) {
        State s = now.copy();
        int[] all = new int[3];
        long r = seed;
        for (int y = 0; y < years; y++) {
            boolean[] hit = new boolean[6];
            for (int f = 0; f < n(); f++) {
                r = (r * 1103515245L + 12345L) & 0xffffffffL;
                hit[f] = (r >> 16 & 0x7fff) % 16 < q;
            }
            int[] got = reap(s);
            s.year++;
            for (int f = 0; f < n(); f++) {
                if (s.sown[f] >= 0) {
                    all[0] += hit[f] ? 0 : got[f];
                    all[1] += hit[f] ? 0 : got[f] * farm.sounds.get(s.sown[f])[2];
                    all[2] += hit[f] ? 1 : 0;
                }
            }
        }
        return all;
    }

    int blight(int seed, int q, int years, int what) {
        arg(q >= 0 && q <= 16 && years >= 1 && years <= 20 && what >= 0 && what <= 2);
        return blighted(seed, q, years)[what];
    }

    int span(int seed, int many, int q, int years, int what) {
        arg(many >= 1 && many <= 20 && q >= 0 && q <= 16 && years >= 1 && years <= 20 && what >= 0 && what <= 2);
        int[] got = new int[many];
        for (int i = 0; i < many; i++) {
            got[i] = blighted(seed + i, q, years)[0];
        }
        return what == 0 ? Arrays.stream(got).min().getAsInt() : what == 1 ? Arrays.stream(got).max().getAsInt()
            : Arrays.stream(got).sum();
    }

    int sums(int what) {
        arg(what >= 0 && what <= 6);
        int all = 0;
        if (what < 5) {
            for (int[] b : now.bales) {
                all += b[what + 1];
            }
        } else {
            for (int o : now.order) {
                all += o == what - 4 ? 1 : 0;
            }
        }
        return all;
    }

    int image() {
        if (images.size() == 3) {
            return -1;
        }
        Picture p = new Picture();
        p.state = now.copy();
        p.undo = new ArrayList<>(undo);
        p.tape = tape;
        images.add(p);
        return images.size();
    }

    int restore() {
        if (images.isEmpty()) {
            return -1;
        }
        Picture p = images.remove(images.size() - 1);
        now = p.state.copy();
        undo = p.undo;
        tape = p.tape;
        refusedSteps = 0;
        return images.size();
    }

    int status(int what) {
        return what == 0 ? missing : what == 1 ? wrong : -1;
    }

    int count(int what) {
        return what == 0 ? images.size() : what == 1 ? tape.length() : what == 2 ? undo.size() : -1;
    }
}
