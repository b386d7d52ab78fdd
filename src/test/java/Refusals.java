import java.util.function.Consumer;

/** What each call refuses and by which exception, what has no more room, and that nothing changes but what the document says. */
public final class Refusals {
    private static final int LEAST = Integer.MIN_VALUE;
    private static final int MOST = Integer.MAX_VALUE;

    private Refusals() {
    }

    private static void due(String what, long got, long want) {
        Check.due(what, got, want);
    }

    /** An object in which all is in use but the TAPE: three fields, two sounds, orders, LAW, BOOK, WORKS, IMAGES. */
    private static NoiseFields worked() {
        NoiseFields x = Check.farmed("field 4;field 0;field 9;sound 5 2 3;sound 3 6 2;order 1 0 4 50;order 2 1 9 70;order 3 1 1 5;"
            + "barn 15;spoil 2;hail 2;cross 4;");
        Check.law(x, "soil + rest - near / 3 - hail");
        Check.book(x, "0 120;");
        Check.work(x, "sow 0 0;sow 1 1;year;");
        x.image();
        Check.work(x, "sell 0 1;sow 2 1;year;");
        x.image();
        Check.work(x, "clear 1;clear 1;sell 1 99;");
        return x;
    }

    /** A FAULT, and twenty bytes on the TAPE too. */
    private static NoiseFields used() {
        NoiseFields x = worked();
        Check.law(x, "1 +");
        Check.feed(x, "field 1;  field 2;  ");
        return x;
    }

    /** A refused call counts one refusal and changes nothing else, neither what can be undone and restored nor the TAPE. */
    private static void refused(String what, boolean missing, Consumer<NoiseFields> call) {
        NoiseFields x = used();
        String before = Whole.of(x);
        int fault = x.fault();
        due("no refusals ahead", x.status(0) * 10 + x.status(1), 0);
        Check.same(what, Check.outcome(() -> {
            call.accept(x);
            return 0;
        }), missing ? "m" : "w");
        due("missing, " + what, x.status(0), missing ? 1 : 0);
        due("wrong, " + what, x.status(1), missing ? 0 : 1);
        due("fault, " + what, x.fault(), fault);
        Check.same("all behind " + what, Whole.of(x), before);
        Check.same("all that can be taken back behind " + what, Whole.deepOf(x), Whole.deepOf(used()));
        NoiseFields y = used();
        Check.outcome(() -> {
            call.accept(y);
            return 0;
        });
        Check.same("the tape behind " + what, Whole.tapeOf(y), Whole.tapeOf(used()));
    }

    private static void missing(String what, Consumer<NoiseFields> call) {
        refused(what, true, call);
    }

    private static void wrong(String what, Consumer<NoiseFields> call) {
        refused(what, false, call);
    }

    private static void lengths() {
        for (int n : new int[] {-1, 21, 601, LEAST, MOST}) {
            wrong("farm " + n, x -> x.farm(n));
            wrong("law " + n, x -> x.law(n));
            wrong("work " + n, x -> x.work(n));
            wrong("book " + n, x -> x.book(n));
        }
        NoiseFields x = used();
        Check.feed(x, " ".repeat(580));
        due("a full tape", x.count(1), 600);
        Check.refused("law of 151", () -> x.law(151));
        Check.refused("work of 201", () -> x.work(201));
        Check.refused("book of 101", () -> x.book(101));
        Check.refused("farm of 601", () -> x.farm(601));
        due("the tape stays", x.count(1), 600);
        due("four", x.status(1), 4);
        due("farm of 600", x.farm(600), 2);
        Check.refused("an empty tape", () -> x.farm(1));
        Check.refused("an empty tape", () -> x.law(1));
        Check.refused("an empty tape", () -> x.work(1));
        Check.refused("an empty tape", () -> x.book(1));
        due("nothing of it", x.farm(0) * 1000 + x.work(0) * 100 + x.book(0) * 10 + x.law(0), -9);
    }

    private static void whats() {
        for (int what : new int[] {-1, LEAST, MOST, 9}) {
            wrong("told " + what, x -> x.told(what));
            wrong("field " + what, x -> x.field(2, what == 9 ? 5 : what));
            wrong("sound " + what, x -> x.sound(1, what));
            wrong("order " + what, x -> x.order(2, what == 9 ? 5 : what));
            wrong("ahead " + what, x -> x.ahead(what == 9 ? 4 : what));
            wrong("best " + what, x -> x.best(what == 9 ? 2 : what));
            wrong("turnsOf what " + what, x -> x.turnsOf(2, 5, what == 9 ? 2 : what));
            wrong("turnsOf n " + what, x -> x.turnsOf(2, what == 9 ? 6 : what == -1 ? 0 : what, 1));
            wrong("sets what " + what, x -> x.sets(12, what == 9 ? 2 : what));
            wrong("sets " + what, x -> x.sets(what == 9 ? 1111 : what, 0));
            wrong("crossing " + what, x -> x.crossing(what == 9 ? 64 : what, 63));
            wrong("crossing with " + what, x -> x.crossing(0, what == 9 ? 64 : what));
            wrong("generation " + what, x -> x.generation(what == 9 ? 64 : what));
            wrong("rows " + what, x -> x.rows(what == 9 ? 65 : what));
            wrong("heard " + what, x -> x.heard(what == 9 ? 2 : what));
            wrong("ear " + what, x -> x.ear(what == 9 ? 2 : what));
            wrong("against " + what, x -> x.against(0, what == 9 ? 2 : what));
            wrong("keeps " + what, x -> x.keeps(1, what == 9 ? 41 : what));
            wrong("sums " + what, x -> x.sums(what == 9 ? 7 : what));
        }
        wrong("sets of a sound that is not there", x -> x.sets(3, 1));
        wrong("sets with a 0", x -> x.sets(10, 1));
    }

    private static void wouldAndBlight() {
        int[][] least = {{0, 0, 0, 1, 0, 0}, {9, 9, 1, 9, 18, 1}};
        int[] beyond = {-1, -1, -1, 0, -1, -1, 10, 10, 2, 10, 19, 2};
        for (int i = 0; i < 12; i++) {
            int[] n = least[i / 6].clone();
            n[i % 6] = beyond[i];
            wrong("would " + i, x -> x.would(n[0], n[1], n[2], n[3], n[4], n[5]));
        }
        NoiseFields y = used();
        due("least", y.would(0, 0, 0, 1, 0, 0), 0);
        due("most", y.would(9, 9, 1, 9, 18, 1), 9 + 9 - 6 - 1);
        for (int q : new int[] {-1, 17, LEAST, MOST}) {
            wrong("blight q " + q, x -> x.blight(0, q, 1, 0));
            wrong("span q " + q, x -> x.span(0, 1, q, 1, 0));
        }
        for (int years : new int[] {0, 21, -1, LEAST, MOST}) {
            wrong("blight years " + years, x -> x.blight(0, 0, years, 0));
            wrong("span years " + years, x -> x.span(0, 1, 0, years, 0));
            wrong("span many " + years, x -> x.span(0, years, 0, 1, 0));
        }
        for (int what : new int[] {-1, 3, LEAST, MOST}) {
            wrong("blight what " + what, x -> x.blight(0, 16, 20, what));
            wrong("span what " + what, x -> x.span(0, 20, 16, 20, what));
        }
        due("the last that are allowed", y.blight(0, 16, 20, 2) + y.span(0, 20, 16, 20, 2), 2 * 20);
        due("the first that are allowed", y.blight(0, 0, 1, 2), 0);
        due("and so a span", y.span(0, 1, 0, 1, 2) - y.blight(0, 0, 1, 0), 0);
        due("none refused", y.status(1), 0);
    }

    /** No such FIELD, SOUND, ORDER comes ahead of what else is wrong. */
    private static void noSuch() {
        for (int none : new int[] {-1, 3, LEAST, MOST}) {
            missing("field " + none, x -> x.field(none, 0));
            missing("field " + none + ", what too", x -> x.field(none, 5));
            missing("order " + none, x -> x.order(none, 0));
            missing("order " + none + ", what too", x -> x.order(none, -1));
            missing("loud " + none, x -> x.loud(none));
            missing("sure " + none, x -> x.sure(none));
            missing("yields in " + none, x -> x.yields(none, 0));
            missing("turnsOf " + none, x -> x.turnsOf(none, 1, 0));
            missing("turnsOf " + none + ", n and what too", x -> x.turnsOf(none, 6, 2));
            missing("against " + none, x -> x.against(none, 0));
            missing("against " + none + ", what too", x -> x.against(none, 2));
            int sound = none == 3 ? 2 : none;
            missing("sound " + sound, x -> x.sound(sound, 0));
            missing("sound " + sound + ", what too", x -> x.sound(sound, 9));
            missing("yields of " + sound, x -> x.yields(0, sound));
            missing("yields of " + sound + " in none", x -> x.yields(3, sound));
            missing("keeps " + sound, x -> x.keeps(sound, 0));
            missing("keeps " + sound + ", n too", x -> x.keeps(sound, 41));
        }
        NoiseFields y = new NoiseFields();
        Check.missing("a field of none", () -> y.field(0, 0));
        Check.missing("a sound of none", () -> y.sound(0, 0));
        Check.missing("an order of none", () -> y.order(0, 0));
        Check.missing("a field of none", () -> y.loud(0));
        Check.missing("a field of none", () -> y.sure(0));
        Check.missing("a field of none", () -> y.against(0, 0));
        Check.missing("a field of none", () -> y.turnsOf(0, 1, 0));
        Check.missing("a sound of none", () -> y.keeps(0, 0));
        Check.missing("neither", () -> y.yields(0, 0));
        due("nine", y.status(0) * 10 + y.status(1), 90);
    }

    private static void tape() {
        NoiseFields x = used();
        String before = Whole.of(x).replace("count1=20", "count1=600");
        for (int bytes = 40; bytes <= 600; bytes += 20) {
            due("feed", x.feed(0x20202020, 0x20202020, 0x20202020, 0x20202020, 0x20202020), bytes);
        }
        due("more than 600", x.feed(-1, -1, -1, -1, -1), -1);
        due("more than 600", x.feed(0, 0, 0, 0, 0), -1);
        Check.same("only the tape is full", Whole.of(x), before);
        due("no refusal", x.status(0) + x.status(1), 0);
        due("nothing of it came on the tape", x.farm(600) * 10 + x.fault(), 19);
        due("room again", x.feed(0, 0, 0, 0, 0), 20);
        NoiseFields y = new NoiseFields();
        // "barn", " 0\xff;": the highest byte first; a byte of 255 can't stand there
        due("feed", y.feed(0x6261726e, 0x2039393b, 0x6261726e, 0x2031ff3b, 0x80000000), 20);
        due("the first eight", y.farm(8) * 100 + y.told(8), 99);
        y.feed(0x6261726e, 0x2039393b, 0x6261726e, 0x2031ff3b, 0x80000000);
        due("byte 255", y.farm(16) * 100 + y.fault(), -886);
        y.feed(0x6261726e, 0x2039393b, 0x80000000, 0, 0);
        due("byte 128", y.farm(9) * 100 + y.fault(), -892);
        due("the barn stays", y.told(8), 99);
    }

    /** A FARM that is told, even an empty one, ends all that was; one with a FAULT ends nothing (TextLimits looks at that). */
    private static void farms() {
        NoiseFields x = used();
        Check.missing("a refusal", () -> x.field(9, 9));
        Check.refused("a refusal", () -> x.told(9));
        due("an empty farm", x.farm(0), 0);
        Check.same("as a new object", Whole.of(x), Whole.of(new NoiseFields()));
        due("fault", x.fault(), -1);
        due("refusals stay counted", x.status(0) * 10 + x.status(1), 11);
        due("nothing to undo, to restore", x.undo() * 10 + x.restore(), -11);
        NoiseFields y = used();
        String text = "field 4;field 7;sound 5 2 3;order 1 0 2 5;barn 50;spoil 1;hail 1;cross 2;";
        y.farm(0);
        due("a farm", Check.farm(y, text), 2);
        Check.same("as a new object's", Whole.of(y), Whole.of(Check.farmed(text)));
        due("a farm behind a farm", Check.farm(y, "field 4;"), 1);
        Check.same("nothing is left of it", Whole.of(y), Whole.of(Check.farmed("field 4;")));
    }

    private static void twentyWorks() {
        NoiseFields x = Check.farmed("field 5;sound 1 1 1;");
        due("nothing to undo", x.undo(), -1);
        for (int i = 1; i <= 20; i++) {
            due("work " + i, Check.work(x, i % 2 == 0 ? "year;" : "clear 0;"), i % 2 == 0 ? 1 : 0);
            due("works", x.count(2), i);
        }
        x.image();
        Check.law(x, "1 +");
        due("a fault of the law", x.fault(), 3);
        Check.work(x, "year;");
        due("no fault then", x.fault(), -1);
        String before = Whole.of(x);
        for (String text : new String[] {"", "year;", "year", "sow 9 9;", "x"}) {
            due("21st work '" + text + "'", Check.work(x, text), -20);
            due("no fault in '" + text + "'", x.fault(), -1);
            Check.same("all behind '" + text + "'", Whole.of(x), before);
        }
        Check.feed(x, "year;");
        for (int n : new int[] {-1, 21, 201}) {
            Check.refused("a wrong length ahead of that", () -> x.work(n));
        }
        due("the tape stays", x.count(1), 20);
        due("whatever of it", x.work(3) * 10 + x.count(1), -200);
        for (int left = 19; left >= 0; left--) {
            due("undo", x.undo(), left);
            due("year " + left, x.told(3), 1 + left / 2);
            due("works " + left, x.count(2), left);
        }
        due("none left", x.undo(), -1);
        Check.same("as at first", Whole.of(x).replace("count0=1", "count0=0"), Whole.of(Check.farmed("field 5;sound 1 1 1;")));
        due("restore", x.restore() * 100 + x.count(2), 20);
        due("full again", Check.work(x, "year;"), -20);
        due("undo", x.undo(), 19);
        due("room for one", Check.work(x, "year;") * 100 + x.count(2), 120);
        due("no more", Check.work(x, "year;"), -20);
        due("a farm makes room", Check.farm(x, "field 1;") * 100 + x.count(2), 100);
        due("work", Check.work(x, "year;"), 1);
    }

    private static void images() {
        NoiseFields x = Check.farmed("field 5;sound 1 1 1;");
        due("none", x.restore() * 10 + x.count(0), -10);
        Check.work(x, "clear 0;");
        due("a restore of none leaves all", x.restore() * 10 + x.told(7), -9);
        for (int i = 1; i <= 3; i++) {
            Check.work(x, "year;");
            due("image " + i, x.image() * 10 + x.count(0), 11 * i);
        }
        Check.work(x, "clear 0;");
        String before = Whole.of(x);
        due("a fourth", x.image(), -1);
        due("a fifth", x.image(), -1);
        Check.same("nothing by it", Whole.of(x), before);
        for (int left = 2; left >= 0; left--) {
            Check.work(x, "sow 0 0;year;year;year;");
            due("restore", x.restore() * 10 + x.count(0), 11 * left);
            due("year, sown, refused", x.told(3) * 100 + x.field(0, 2) * 10 + x.told(7), (left + 2) * 100 - 10);
            due("works", x.count(2), left + 2);
        }
        due("none left", x.restore(), -1);
        due("an image again", x.image(), 1);
        due("no refusal", x.status(0) + x.status(1), 0);
        // the latest IMAGE is gone once it is restored, also with the same state
        due("restore", x.restore() * 10 + x.restore(), -1);
        NoiseFields full = worked();
        due("third", full.image(), 3);
        due("a farm with a fault keeps them", Check.farm(full, "field") * 10 + full.count(0), -87);
        due("a farm drops them", full.farm(0) * 100 + full.count(0) * 10 + full.restore(), -1);
    }

    /** Of all but the LAW and the BOOK; refusals are counted on; told(7) is 0 behind restore() and behind undo(). */
    private static void restored() {
        NoiseFields x = used();
        x.image();
        String then = Whole.of(x);
        due("refused", x.told(7), 2);
        x.work(0);
        Check.work(x, "clear 1;");
        due("refused then", x.told(7), 1);
        Check.missing("a refusal", () -> x.loud(9));
        due("restore", x.restore(), 2);
        Check.same("as it was", Whole.of(x), then.replace("told7=2", "told7=0").replace("count0=3", "count0=2"));
        due("refusals", x.status(0), 1);
        x.work(0);
        x.image();
        Check.law(x, "7");
        Check.book(x, "");
        x.restore();
        due("law, book stay", x.would(0, 0, 0, 1, 0, 0) * 10 + x.told(6), 70);
        Check.work(x, "clear 1;clear 1;");
        due("two refused", x.told(7), 2);
        due("undone", x.undo() * 10 + x.told(7), 40);
        Check.work(x, "clear 1;");
        due("one refused", x.told(7), 1);
        Check.work(x, "clear 1");
        due("a text with a fault is no work", x.told(7), 1);
        Check.work(x, "year;");
        due("none refused", x.told(7), 0);
    }

    /** An IMAGE is of all but the LAW and the BOOK, so of the TAPE too, empty or full. */
    private static void restoredTapes() {
        NoiseFields x = worked();
        Check.feed(x, "field 1;field 2;    " + " ".repeat(580));
        due("a full tape", x.image() * 1000 + x.count(1), 3600);
        x.work(0);
        due("an empty one", x.count(1), 0);
        due("full again", x.restore() * 1000 + x.count(1), 2600);
        due("no room", x.feed(0, 0, 0, 0, 0), -1);
        due("its bytes", x.farm(600) * 10 + x.field(1, 0), 22);
        NoiseFields y = worked();
        y.image();
        Check.feed(y, "field 1;");
        due("empty again", y.restore() * 1000 + y.count(1), 2000);
        due("undo leaves it", y.feed(0, 0, 0, 0, 0) * 100 + y.undo() * 10 + y.count(1), 2040);
    }

    private static void counts() {
        NoiseFields x = used();
        for (int other : new int[] {-1, 2, LEAST, MOST}) {
            due("status " + other, x.status(other), -1);
            due("count " + other, x.count(other == 2 ? 3 : other), -1);
        }
        due("no refusal by them", x.status(0) + x.status(1), 0);
        for (int i = 1; i <= 5; i++) {
            Check.missing("field", () -> x.field(-1, 0));
            Check.refused("told", () -> x.told(-1));
            Check.refused("told", () -> x.told(9));
            due("counted", x.status(0) * 100 + x.status(1), 102L * i);
        }
        due("counts", x.count(0) * 1000 + x.count(1) * 10 + x.count(2), 2203);
    }

    public static void main(String[] args) {
        lengths();
        whats();
        wouldAndBlight();
        noSuch();
        tape();
        farms();
        twentyWorks();
        images();
        restored();
        restoredTapes();
        counts();
        Check.end("Refusals");
    }
}
