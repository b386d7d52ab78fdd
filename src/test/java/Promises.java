/** The 36 promises one by one, with answers worked out by hand from the document. */
public final class Promises {
    private static final String FARM =
        "field 4;field 0;field 9;sound 5 2 3;sound 3 6 2;order 1 0 4 50;order 2 1 9 70;barn 15;spoil 2;hail 2;cross 0;";

    private Promises() {
    }

    private static void due(String what, long got, long want) {
        Check.due(what, got, want);
    }

    private static NoiseFields worked() {
        NoiseFields x = Check.farmed(FARM);
        due("work of a first year", Check.work(x, "sow 0 0;sow 1 1;year;"), 3);
        return x;
    }

    private static String times(int n, String text) {
        return text.repeat(n);
    }

    private static void fault(String text, int answer, int kind, int place, NoiseFields x) {
        due("'" + text + "'", answer, kind - 10);
        due("fault of '" + text + "'", x.fault(), place);
        due("tape behind '" + text + "'", x.count(1), 0);
    }

    private static void farmFault(String text, int kind, int place) {
        NoiseFields x = new NoiseFields();
        fault(text, Check.farm(x, text), kind, place, x);
        due("fields behind '" + text + "'", x.told(0), 0);
    }

    private static void lawFault(String text, int kind, int place) {
        NoiseFields x = new NoiseFields();
        fault(text, Check.law(x, text), kind, place, x);
        due("law behind '" + text + "'", x.would(3, 2, 0, 1, 4, 0), 4);
    }

    private static void workFault(String text, int kind, int place) {
        NoiseFields x = Check.farmed("field 1;field 2;sound 1 1 1;");
        fault(text, Check.work(x, text), kind, place, x);
        due("works behind '" + text + "'", x.count(2), 0);
        due("year behind '" + text + "'", x.told(3), 1);
    }

    private static void bookFault(String text, int kind, int place) {
        NoiseFields x = Check.farmed("field 1;field 2;sound 1 1 1;");
        Check.book(x, "1 30;");
        fault(text, Check.book(x, text), kind, place, x);
        due("lines behind '" + text + "'", x.told(6), 1);
    }

    private static void would(String law, int want) {
        NoiseFields x = new NoiseFields();
        due("law " + law, Check.law(x, law), 1);
        // soil 7, rest 2, same 1, loud 3, near 8, hail 1
        due("would by " + law, x.would(7, 2, 1, 3, 8, 1), want);
    }

    private static void promise1() {
        NoiseFields x = new NoiseFields();
        due("NONE", NoiseFields.NONE, -1);
        for (int what = 0; what <= 8; what++) {
            due("told " + what, x.told(what), what == 3 ? 1 : what == 8 ? 20 : 0);
        }
        due("fault", x.fault(), -1);
        due("crossing by 0", x.crossing(12, 10), 6);
        Check.missing("field", () -> x.field(0, 0));
        Check.missing("sound", () -> x.sound(0, 0));
        Check.missing("order", () -> x.order(0, 0));
    }

    private static void promise2() {
        NoiseFields x = new NoiseFields();
        for (int i = 1; i <= 30; i++) {
            due("feed", x.feed(0, 0, 0, 0, 0), 20 * i);
        }
        due("feed beyond 600", x.feed(0, 0, 0, 0, 0), -1);
        due("bytes", x.count(1), 600);
        NoiseFields y = new NoiseFields();
        // "fiel" "d 7;" and bytes behind the eighth that are not read
        due("feed", y.feed(0x6669656c, 0x6420373b, -1, 0x80818283, 0), 20);
        due("highest byte first", y.farm(8), 1);
        due("soil", y.field(0, 0), 7);
        y.feed(0x6669656c, 0x6420373b, 0xff000000, 0, 0);
        due("byte 255 can't stand", y.farm(9), -9);
        due("its place", y.fault(), 8);
    }

    private static void promise3() {
        NoiseFields x = worked();
        Check.law(x, "7");
        Check.book(x, "0 60;");
        x.image();
        x.feed(0, 0, 0, 0, 0);
        Check.refused("more than the tape", () -> x.farm(21));
        Check.refused("below 0", () -> x.farm(-1));
        due("tape stays", x.count(1), 20);
        due("farm stays", x.told(0), 3);
        due("fault in zeros", x.farm(20), -9);
        due("farm stays", x.told(0) * 100 + x.told(3) * 10 + x.told(6), 321);
        due("law stays", x.would(0, 0, 0, 1, 0, 0), 7);
        due("images stay", x.count(0), 1);
        due("works stay", x.count(2), 1);
        due("a new farm", Check.farm(x, " field 3 ;barn 7;  "), 1);
        due("year, book", x.told(3) * 10 + x.told(6), 10);
        due("law is the usual one", x.would(3, 2, 0, 1, 4, 0), 4);
        due("no images", x.count(0), 0);
        due("no works", x.count(2), 0);
        due("undo", x.undo(), -1);
        due("refused steps", x.told(7), 0);
        due("pence", x.told(4), 0);
        due("an empty farm", x.farm(0), 0);
        due("its barn", x.told(8), 20);
        due("last ones count", Check.farm(x, "barn 3;spoil 8;cross 1;barn 99;spoil 1;cross 2;"), 0);
        due("barn", x.told(8), 99);
        due("cross", x.crossing(12, 10), 14);
        due("stuck together, noughts ahead", Check.farm(x, "field007;sound01 002 0;"), 1);
        due("soil", x.field(0, 0), 7);
        farmFaults();
    }

    private static void farmFaults() {
        farmFault("field 10;", 2, 6);
        farmFault("field 99999999999999999999;", 2, 6);
        farmFault("field 4294967297;", 2, 6);
        farmFault("field;", 1, 5);
        farmFault("field x;", 1, 6);
        farmFault("field 1 2;", 1, 8);
        farmFault("field -1;", 1, 6);
        farmFault("field 1", 1, 7);
        farmFault("field 1  ", 1, 9);
        farmFault("field", 1, 5);
        farmFault(";", 1, 0);
        farmFault(" Field 1;", 1, 1);
        farmFault("field 1;;", 1, 8);
        farmFault("fields 1;", 1, 0);
        farmFault("fiel d 1;", 1, 0);
        farmFault("sound 64 0 100;", 2, 6);
        farmFault("sound 63 0 100;", 2, 9);
        farmFault("sound 63 10 100;", 2, 9);
        farmFault("sound 63 9 100;", 2, 11);
        farmFault("order 41 0 1 1;", 2, 6);
        farmFault("order 0 0 1 1;", 2, 6);
        farmFault("order 40 0 1 1;sound 1 1 1;", 2, 9);
        farmFault("sound 1 1 1;order 40 0 0 1;", 2, 23);
        farmFault("sound 1 1 1;order 40 0 99 10000;", 2, 26);
        farmFault("barn 100;", 2, 5);
        farmFault("spoil 9;", 2, 6);
        farmFault("hail 0;", 2, 5);
        farmFault("hail 41;", 2, 5);
        farmFault("cross 5;", 2, 6);
        farmFault(times(6, "field 1;") + "field x;", 3, 48);
        farmFault(times(6, "sound 1 1 1;") + " sound 1 1 1;", 3, 73);
        farmFault("sound 1 1 1;" + times(11, "order 1 0 1 1;"), 3, 152);
        farmFault(times(7, "hail 1;"), 3, 42);
        farmFault(times(60, "barn 1;") + "barn 1;", 3, 420);
        farmFault(times(60, "barn 1;") + "barns 1;", 1, 420);
        NoiseFields x = new NoiseFields();
        due("60 clauses", Check.farm(x, times(60, "barn 1;") + "   "), 0);
        due("10 orders", Check.farm(x, "sound 1 1 1;" + times(10, "order 1 0 1 1;")) * 100 + x.told(2), 10);
        due("600 bytes", Check.farm(x, "field 1;" + " ".repeat(592)), 1);
    }

    private static void promise4() {
        would("0", 0);
        would("soil+rest*100", 99);
        would("rest-soil", 0);
        would("soil - rest - 1", 4);
        would("soil * 3 / 2 * 2", 20);
        would("99 / 10 / 3", 3);
        would("soil / 0 + 6", 6);
        would("(0 - 7) / 2 + 10", 7);
        would("same * 10 + hail", 11);
        would("loud * 10 + near", 38);
        would("price + year + field + 5", 5);
        would("least [ soil , rest ]", 2);
        would("most[soil,rest]", 7);
        would("least[most[1,soil],least[6,9]]*2", 12);
        would("(soil+rest)*2", 18);
        would("soil+rest*2", 11);
        // 999 to the 4th is 996,005,996,001, which wraps to -426,416,671
        would("999*999*999*999 / 999 / 999 / 10", 0);
        would("0 - 999*999*999*999 / 999 / 999 / 10", 42);
        would("(0-128*256*256*256)/(0-1)+128*256*256*256+5", 5);
        would("((((((1))))))", 1);
        would("((((((1))))))+((((((1))))))", 2);
        would("  000000000007  ", 7);
        lawFaults();
    }

    private static void lawFaults() {
        lawFault("", 1, 0);
        lawFault("   ", 1, 3);
        lawFault("soil +", 1, 6);
        lawFault("soil soil", 1, 5);
        lawFault("soil 1000", 1, 5);
        lawFault("1000", 2, 0);
        lawFault("-1", 1, 0);
        lawFault("1 + * 2", 1, 4);
        lawFault("soils", 1, 0);
        lawFault("Soil", 1, 0);
        lawFault("(1", 1, 2);
        lawFault("(1]", 1, 2);
        lawFault("1)", 1, 1);
        lawFault("()", 1, 1);
        lawFault("least", 1, 5);
        lawFault("least(1,2)", 1, 5);
        lawFault("least[1]", 1, 7);
        lawFault("most[1,2", 1, 8);
        lawFault("most[1,2,3]", 1, 8);
        lawFault("most[,2]", 1, 5);
        lawFault("again[1]", 1, 0);
        lawFault("(((((((1)))))))", 3, 6);
        lawFault("((((((least[1,2]))))))", 3, 6);
        lawFault("((((((leasts", 1, 6);
        lawFault("((((((most", 3, 6);
        lawFault("least[least[least[least[least[least[(", 3, 36);
        lawFault("1;", 1, 1);
        lawFault("1\u0000", 1, 1);
        lawFault("1\u00b2", 1, 1);
        NoiseFields x = new NoiseFields();
        Check.feed(x, "1" + " ".repeat(150));
        Check.refused("151 bytes", () -> x.law(151));
        due("150 bytes", x.law(150), 1);
        Check.refused("an empty tape", () -> x.law(1));
        Check.feed(x, "(((((((");
        due("what is behind the text is not read", x.law(6) * 10 + x.fault(), -84);
        due("status", x.status(1), 2);
    }

    private static void promise5() {
        NoiseFields x = Check.farmed("field 1;field 2;sound 1 1 1;sound 1 1 5;");
        due("steps", Check.work(x, " again 2 [ sow 0 0 ; clear 0 ; clear 0 ; ] ; sell 0 1 ; "), 4);
        due("refused", x.told(7), 3);
        due("again 0", Check.work(x, "again 0[year;];"), 0);
        due("year", x.told(3), 1);
        due("no bytes", x.work(0), 0);
        due("a step's blanks", Check.work(x, "sow0 1;sow 1 0;"), 2);
        due("sown", x.field(0, 2) * 10 + x.field(1, 2), 10);
        due("sown instead", Check.work(x, "sow 0 0;") * 10 + x.field(0, 2), 10);
        due("six open", Check.work(x, times(6, "again 1[") + "year;" + times(6, "];")), 1);
        due("year", x.told(3), 2);
        due("six open twice", Check.work(x, times(2, times(6, "again 1[") + "year;" + times(6, "];"))), 2);
        limits();
        workFaults();
    }

    private static void limits() {
        NoiseFields x = Check.farmed("field 1;sound 1 1 1;");
        // 1 + 9 * 21 + 1 + 9 are begun: 189 clears
        due("200 begun", Check.work(x, "again 20 [again 20 [clear 0;];];year;") * 1000 + x.told(7), 189);
        due("year is left out", x.told(3), 1);
        due("198 years", Check.work(x, "again 20[again 20[year;];];"), 189);
        due("year", x.told(3), 190);
        // 1 + 20 * 9 + 1 + 18 are begun, 178 of them years
        due("a year behind", Check.work(x, "again 20[again 8[year;];];again 20[year;];"), 178);
        due("empty agains", Check.work(x, times(6, "again 20[") + times(6, "];") + "year;"), 0);
        for (int i = x.count(2); i < 20; i++) {
            due("work", x.work(0), 0);
        }
        Check.feed(x, "year");
        Check.refused("too long ahead of too many", () -> x.work(21));
        due("tape stays", x.count(1), 20);
        due("21st work", x.work(4), -20);
        due("no fault", x.fault(), -1);
        due("tape is empty", x.count(1), 0);
        due("works", x.count(2), 20);
        due("undo", x.undo(), 19);
        due("a fault", Check.work(x, "year"), -9);
        due("fault", x.fault(), 4);
        due("refused steps stay", x.told(7), 0);
        due("room again", Check.work(x, "clear 0;") * 10 + x.told(7), 1);
        due("full again", Check.work(x, "year"), -20);
        due("no fault then", x.fault(), -1);
        due("refused steps stay", x.told(7), 1);
    }

    private static void workFaults() {
        workFault("sow 2 0;", 2, 4);
        workFault("sow 1 1;", 2, 6);
        workFault("sow 1;", 1, 5);
        workFault("clear 2;", 2, 6);
        workFault("sell 1 1;", 2, 5);
        workFault("sell 0 0;", 2, 7);
        workFault("sell 0 100;", 2, 7);
        workFault("year 1;", 1, 5);
        workFault("year;years;", 1, 5);
        workFault("year", 1, 4);
        workFault("again 21 [];", 2, 6);
        workFault("again 1 (", 1, 8);
        workFault("again 1 [year]", 1, 13);
        workFault("again 1 [year;", 1, 14);
        workFault("again 1 [year;]", 1, 15);
        workFault("again 1 [1];", 1, 9);
        workFault("year;]", 1, 5);
        workFault("];", 1, 0);
        workFault(times(7, "again 1["), 3, 48);
        workFault(times(6, "again 1[") + "agains", 1, 48);
        workFault("year;(year;);", 1, 5);
        NoiseFields x = Check.farmed("field 1;");
        Check.feed(x, "year;" + " ".repeat(196));
        Check.refused("201 bytes", () -> x.work(201));
        Check.refused("below 0", () -> x.work(-1));
        due("200 bytes", x.work(200), 1);
    }

    private static void promise6() {
        NoiseFields x = Check.farmed("field 1;field 2;sound 1 1 1;");
        due("lines", Check.book(x, " 1 0030 ; 0 9999 ; "), 2);
        due("told", x.told(6), 2);
        due("no lines", x.book(0) * 10 + x.told(6), 0);
        bookFault("2 1;", 2, 0);
        bookFault("0 10000;", 2, 2);
        bookFault("0 5; 0 6;", 2, 5);
        bookFault("0 5", 1, 3);
        bookFault("0;", 1, 1);
        bookFault(";", 1, 0);
        bookFault("0 1;x", 1, 4);
        bookFault("field 0 1;", 1, 0);
        NoiseFields y = Check.farmed(times(6, "field 1;"));
        due("six lines", Check.book(y, "0 0;1 0;2 0;3 0;4 0;5 0;"), 6);
        due("a seventh", Check.book(y, "0 0;1 0;2 0;3 0;4 0;5 0;5 0;"), -8);
        due("its place", y.fault(), 24);
        due("one beyond", Check.book(y, "0 0;1 0;2 0;3 0;4 0;5 0;6 0;"), -8);
        due("six lines stay", y.told(6), 6);
        Check.feed(y, " ".repeat(101));
        Check.refused("101 bytes", () -> y.book(101));
        due("100 bytes", y.book(100), 0);
        NoiseFields z = new NoiseFields();
        due("no fields", Check.book(z, "0 0;"), -8);
    }

    private static void promise7() {
        NoiseFields x = Check.farmed("field 1;sound 1 1 1;");
        due("none", x.fault(), -1);
        Check.law(x, "1 +");
        due("of the law", x.fault(), 3);
        Check.refused("an argument", () -> x.work(5));
        due("stays", x.fault(), 3);
        x.told(0);
        x.undo();
        due("stays", x.fault(), 3);
        Check.work(x, "year;");
        due("of the latest", x.fault(), -1);
        Check.book(x, "0 0 0");
        due("of the book", x.fault(), 4);
        Check.farm(x, "     barns");
        due("of the farm", x.fault(), 5);
    }

    private static void promise8() {
        NoiseFields x = worked();
        due("sells", Check.work(x, "sell 0 6;clear 0;clear 2;year;"), 3);
        due("pence, year", x.told(4) * 100 + x.told(3) * 10 + x.told(7), 6831);
        Check.law(x, "5");
        Check.book(x, "0 60;");
        due("undo", x.undo(), 1);
        due("pence, year", x.told(4) * 100 + x.told(3) * 10 + x.told(7), 5020);
        due("bales, order", x.sound(0, 3) * 10 + x.order(1, 4), 60);
        due("sown, soil", x.field(0, 2) * 10 + x.field(0, 0), 3);
        due("law, book stay", x.would(0, 0, 0, 1, 0, 0) * 10 + x.told(6), 51);
        due("undo", x.undo(), 0);
        due("as at first", x.told(4) * 100 + x.told(3) * 10 + x.order(0, 4), 10);
        due("last, rest", x.field(0, 3) * 10 + x.field(0, 1), -1);
        due("none", x.undo(), -1);
    }

    private static void promise9() {
        NoiseFields x = worked();
        int[] due = {3, 2, 2, 2, 50, 9, 0, 0, 15};
        for (int what = 0; what <= 8; what++) {
            due("told " + what, x.told(what), due[what]);
        }
        Check.work(x, "clear 2;sell 0 99;");
        due("refused", x.told(7), 2);
        Check.refused("what -1", () -> x.told(-1));
        Check.refused("what 9", () -> x.told(9));
    }

    private static void promise10() {
        NoiseFields x = worked();
        due("soil", x.field(0, 0) * 100 + x.field(1, 0) * 10 + x.field(2, 0), 309);
        due("rest", x.field(0, 1) * 100 + x.field(1, 1) * 10 + x.field(2, 1), 9);
        due("near", x.field(0, 4) * 100 + x.field(1, 4) * 10 + x.field(2, 4), 626);
        due("last, never", x.field(2, 3), -1);
        Check.work(x, "sow 0 1;clear 1;");
        due("sown now, last", x.field(0, 2) * 10 + x.field(0, 3), 10);
        due("cleared, last", x.field(1, 2) * 10 + x.field(1, 3), -9);
        Check.work(x, "clear 0;again 8[year;];");
        due("rest of 8", x.field(0, 1), 8);
        due("soil of 9 at most", x.field(0, 0), 9);
        Check.work(x, "year;year;");
        due("rest of 9 at most", x.field(0, 1), 9);
        Check.work(x, "sow 0 0;again 11[year;];");
        due("soil of 0 at least", x.field(0, 0) * 10 + x.field(0, 1), 0);
        Check.missing("field 3", () -> x.field(3, 0));
        Check.missing("field -1 ahead of what", () -> x.field(-1, 9));
        Check.refused("what 5", () -> x.field(0, 5));
        Check.refused("what -1", () -> x.field(2, -1));
    }

    private static void promise11() {
        NoiseFields x = worked();
        Check.work(x, "sell 0 2;");
        int[] first = {5, 2, 3, 4, 12, 2, 2, 0, 4};
        int[] second = {3, 6, 2, 3, 9, 0, 0, 6, 0};
        for (int what = 0; what <= 8; what++) {
            due("sound 0, " + what, x.sound(0, what), first[what]);
            due("sound 1, " + what, x.sound(1, what), second[what]);
        }
        Check.missing("sound 2", () -> x.sound(2, 0));
        Check.missing("sound -1 ahead of what", () -> x.sound(-1, 9));
        Check.refused("what 9", () -> x.sound(0, 9));
        Check.refused("what -1", () -> x.sound(0, -1));
    }

    private static void promise12() {
        NoiseFields x = worked();
        int[] first = {1, 0, 4, 50, 1};
        int[] second = {2, 1, 9, 70, 0};
        for (int what = 0; what <= 4; what++) {
            due("order 0, " + what, x.order(0, what), first[what]);
            due("order 1, " + what, x.order(1, what), second[what]);
        }
        Check.work(x, "year;");
        due("failed", x.order(1, 4), 2);
        Check.missing("order 2", () -> x.order(2, 0));
        Check.missing("order -1 ahead of what", () -> x.order(-1, 5));
        Check.refused("what 5", () -> x.order(0, 5));
        Check.refused("what -1", () -> x.order(0, -1));
        NoiseFields y = Check.farmed("field 5;sound 1 1 1;order 1 0 10 7;order 1 0 5 100;order 1 0 4 30;order 2 0 1 1;");
        Check.work(y, "sow 0 0;year;");
        // 14 bales: the first takes 10, the second would need 5 of the 4 that are left
        due("as told", y.order(0, 4) * 1000 + y.order(1, 4) * 100 + y.order(2, 4) * 10 + y.order(3, 4), 1210);
        due("pence", y.told(4), 37);
        NoiseFields z = Check.farmed("field 5;sound 1 1 1;" + times(5, "order 1 0 1 1;order 2 0 99 1;"));
        Check.work(z, "sow 0 0;year;");
        due("ten orders", z.sums(5) * 10 + z.sums(6), 50);
        due("the tenth", z.order(9, 4) * 10 + z.order(9, 0), 2);
        due("ahead", z.ahead(2), 5);
        Check.work(z, "year;");
        due("ten orders", z.sums(5) * 100 + z.sums(6) * 10 + z.order(9, 4), 552);
        due("year, pence", z.told(3) * 10 + z.told(4), 35);
    }

    private static void promise13() {
        NoiseFields x = Check.farmed(FARM);
        due("first year", x.yields(0, 0) * 10000 + x.yields(1, 1) * 100 + x.yields(2, 0), 130918);
        Check.work(x, "sow 1 1;");
        due("near of 6", x.yields(0, 0) * 100 + x.yields(2, 1), 1217);
        due("own sound is not near", x.yields(1, 0), 9);
        Check.law(x, "same * 50 + hail * 20 + year * 5 + field * 2 + price");
        due("names", x.yields(1, 1) * 100 + x.yields(2, 0), 912);
        Check.work(x, "year;");
        due("names a year on", x.yields(1, 1) * 100 + x.yields(1, 0), 8435);
        due("nothing changes", x.field(0, 2), -1);
        Check.missing("field 3", () -> x.yields(3, 0));
        Check.missing("sound 2", () -> x.yields(0, 2));
        Check.missing("both", () -> x.yields(-1, -1));
        due("status", x.status(0) * 10 + x.status(1), 30);
    }

    private static void promise14() {
        NoiseFields x = Check.farmed(FARM);
        due("usual", x.would(4, 9, 1, 3, 8, 1), 11);
        due("usual, all most", x.would(9, 9, 1, 9, 18, 1), 14);
        Check.law(x, "price + year + field");
        due("all 0", x.would(4, 9, 1, 3, 8, 1), 0);
        int[][] wrong = {{-1, 0, 0, 1, 0, 0}, {10, 0, 0, 1, 0, 0}, {0, -1, 0, 1, 0, 0}, {0, 10, 0, 1, 0, 0},
            {0, 0, -1, 1, 0, 0}, {0, 0, 2, 1, 0, 0}, {0, 0, 0, 0, 0, 0}, {0, 0, 0, 10, 0, 0}, {0, 0, 0, 1, -1, 0},
            {0, 0, 0, 1, 19, 0}, {0, 0, 0, 1, 0, -1}, {0, 0, 0, 1, 0, 2}};
        for (int[] n : wrong) {
            Check.refused("would", () -> x.would(n[0], n[1], n[2], n[3], n[4], n[5]));
        }
        due("status", x.status(1), wrong.length);
    }

    private static void promise15() {
        NoiseFields x = Check.farmed(times(6, "field 5;") + "sound 1 1 1;sound 1 9 1;");
        due("nothing sown", x.loud(3), 0);
        Check.work(x, "sow 0 0;sow 5 1;");
        int[] due = {60 + 90, 30 + 108, 20 + 135, 15 + 180, 12 + 270, 10 + 540};
        for (int field = 0; field < 6; field++) {
            due("loud " + field, x.loud(field), due[field]);
        }
        Check.work(x, "sow 1 1;sow 2 1;sow 3 1;sow 4 1;sow 0 1;");
        due("loudest", x.loud(2), 1575);
        Check.missing("loud 6", () -> x.loud(6));
        Check.missing("loud -1", () -> x.loud(-1));
    }

    private static void promise16() {
        NoiseFields x = Check.farmed(times(4, "field 5;") + "sound 1 2 1;sound 1 4 1;sound 1 5 1;");
        due("nothing", x.drowned(), 0);
        Check.work(x, "sow 0 0;sow 1 1;");
        due("two times is not more", x.drowned(), 0);
        Check.work(x, "sow 1 2;");
        due("more", x.drowned(), 1);
        Check.work(x, "sow 2 0;sow 3 0;");
        due("5 and 2 by 2", x.drowned(), 5);
        Check.work(x, "clear 2;sow 3 2;");
        due("only next ones", x.drowned(), 1);
    }

    private static void promise17() {
        NoiseFields x = Check.farmed(FARM);
        Check.work(x, "sow 0 0;sow 1 1;");
        due("bales", x.ahead(0), 21);
        due("pence", x.ahead(1), 50);
        due("fails", x.ahead(2), 0);
        due("lost", x.ahead(3), 6);
        due("nothing changes", x.told(3) * 10 + x.told(5), 10);
        Check.work(x, "year;");
        due("a year on", x.ahead(0) * 1000 + x.ahead(1) * 100 + x.ahead(2) * 10 + x.ahead(3), 2010);
        Check.refused("what 4", () -> x.ahead(4));
        Check.refused("what -1", () -> x.ahead(-1));
    }

    private static void promise18() {
        NoiseFields x = worked();
        due("pence", x.best(0), 63);
        due("digits", x.best(1), 101);
        due("nothing changes", x.field(1, 2), 1);
        NoiseFields y = Check.farmed("field 5;field 5;field 5;sound 1 4 2;sound 1 8 2;");
        Check.law(y, "10 - near");
        // each alone gives 20; next to each other 12 and 12, or 12 in between and so on; ends alone: 40
        due("ends", y.best(0), 40);
        due("the first", y.best(1), 101);
        Check.law(y, "loud");
        due("loud ones", y.best(0) * 1000 + y.best(1), 48222);
        Check.law(y, "0");
        due("nothing first", y.best(0) * 1000 + y.best(1), 0);
        Check.law(y, "3");
        due("of alike ones the first", y.best(0) * 1000 + y.best(1), 18111);
        Check.farm(y, times(6, "field 1;") + "sound 1 1 0;" + times(5, "sound 1 1 9;"));
        due("as many as can be", y.best(1), 222222);
        Check.refused("what 2", () -> y.best(2));
        Check.refused("what -1", () -> y.best(-1));
    }

    private static void promise19() {
        NoiseFields x = worked();
        due("1 year", x.turnsOf(0, 1, 0) * 10 + x.turnsOf(0, 1, 1), 61);
        due("2 years", x.turnsOf(0, 2, 0) * 100 + x.turnsOf(0, 2, 1), 1201);
        due("nothing changes", x.field(0, 0) * 10 + x.field(0, 2), 30);
        NoiseFields y = Check.farmed("field 5;field 5;sound 1 3 1;sound 1 3 2;hail 2;hail 5;");
        Check.law(y, "10 * (1 - same) - 9 * hail");
        // turn about, but 1 bale in a year of hail
        due("turn about", y.turnsOf(1, 5, 1), 21212);
        due("pence", y.turnsOf(1, 5, 0), 20 + 1 + 20 + 10 + 2);
        Check.law(y, "rest");
        due("rest", y.turnsOf(0, 5, 0) * 100000 + y.turnsOf(0, 5, 1), 2420002);
        Check.work(y, "sow 1 0;");
        Check.law(y, "near");
        due("others stay sown", y.turnsOf(0, 5, 0) * 100000 + y.turnsOf(0, 5, 1), 3022222);
        Check.law(y, "field * 10 + soil - 5");
        due("of alike ones the first", y.turnsOf(0, 2, 0) * 100 + y.turnsOf(0, 2, 1), 202);
        Check.missing("field 2 ahead of n", () -> y.turnsOf(2, 9, 0));
        Check.missing("field -1", () -> y.turnsOf(-1, 1, 0));
        Check.refused("n 0", () -> y.turnsOf(0, 0, 0));
        Check.refused("n 6", () -> y.turnsOf(0, 6, 0));
        Check.refused("what 2", () -> y.turnsOf(0, 1, 2));
        Check.refused("what -1", () -> y.turnsOf(0, 1, -1));
    }

    private static void promise20() {
        NoiseFields x = Check.farmed("field 4;field 0;field 9;sound 5 2 3;sound 3 6 2;");
        due("of two", x.sets(12, 0) * 1000 + x.sets(12, 1), 2102);
        due("other way round", x.sets(21, 0) * 1000 + x.sets(21, 1), 2102);
        due("one number twice", x.sets(11, 0) * 1000 + x.sets(11, 1), 3011);
        due("three times", x.sets(222, 0) * 1000 + x.sets(222, 1), 1222);
        due("none of them", x.sets(0, 0) * 1000 + x.sets(0, 1), 1000);
        // 6 is more than two times 2: a 1 next to a 2 is drowned in each way
        due("no way", x.sets(112, 0) * 10 + x.sets(112, 1), -1);
        Check.refused("no such sound", () -> x.sets(3, 0));
        Check.refused("a 0 within", () -> x.sets(102, 0));
        Check.refused("a 0 behind", () -> x.sets(10, 0));
        Check.refused("too many", () -> x.sets(1111, 0));
        Check.refused("below 0", () -> x.sets(-1, 0));
        Check.refused("far below 0", () -> x.sets(Integer.MIN_VALUE, 0));
        Check.refused("far above", () -> x.sets(1111111111, 0));
        Check.refused("what 2", () -> x.sets(1, 2));
        Check.refused("what -1", () -> x.sets(0, -1));
        due("status", x.status(1), 9);
        NoiseFields y = Check.farmed(times(6, "field 1;") + "sound 1 1 1;sound 1 1 1;sound 1 1 1;sound 1 1 1;sound 1 1 1;sound 1 1 1;");
        due("all rows of six", y.sets(654321, 0) * 1000 + y.sets(654321, 1) % 1000, 720456);
        due("all rows of five", y.sets(12345, 0) * 10 + y.sets(12345, 1) / 100000, 7200);
    }

    private static void promise21() {
        // 101100 and 011010
        int[] due = {0b110110, 0b001000, 0b111110, 0b011100, 0b011001 ^ 0b011010};
        for (int cross = 0; cross <= 4; cross++) {
            due("cross " + cross, Check.farmed("cross " + cross + ";").crossing(44, 26), due[cross]);
        }
        NoiseFields x = Check.farmed("cross 3;");
        due("lower of the first, upper of the second", x.crossing(63, 0) * 100 + x.crossing(0, 63), 756);
        NoiseFields y = Check.farmed("cross 4;");
        due("highest comes lowest", y.crossing(32, 0) * 100 + y.crossing(0, 32), 132);
        Check.refused("64", () -> y.crossing(64, 0));
        Check.refused("64 behind", () -> y.crossing(0, 64));
        Check.refused("-1", () -> y.crossing(-1, 0));
        Check.refused("-1 behind", () -> y.crossing(0, -1));
    }

    private static void promise22() {
        NoiseFields x = Check.farmed("sound 1 1 1;cross 4;");
        // 1 up with 1 is 3; then 3 with 1 is 7, 1 with 3 is 1, 3 with 3 is 5 ..
        due("its own", x.generation(1), 0);
        due("first", x.generation(3), 1);
        due("second", x.generation(7) * 10 + x.generation(5), 22);
        due("never", Check.farmed("sound 5 1 1;sound 3 1 1;").generation(1), -1);
        due("with itself", Check.farmed("sound 5 1 1;").generation(0), 1);
        due("both orders", Check.farmed("sound 7 1 1;sound 56 1 1;cross 3;").generation(0), 1);
        due("no sounds", new NoiseFields().generation(0), -1);
        Check.refused("64", () -> x.generation(64));
        Check.refused("-1", () -> x.generation(-1));
    }

    private static void promise23() {
        NoiseFields x = Check.farmed("sound 5 2 3;sound 3 6 2;");
        due("first", x.rows(0), 1 << 5 | 1 << 3);
        due("second", x.rows(1), 1 << 5 | 1 << 3 | 1 << 6 | 1);
        due("all", x.rows(64), x.rows(1));
        NoiseFields y = Check.farmed("sound 63 1 1;cross 1;");
        due("the highest", y.rows(0), Long.MIN_VALUE);
        NoiseFields z = Check.farmed("sound 1 1 1;sound 2 1 1;sound 4 1 1;sound 8 1 1;sound 16 1 1;sound 32 1 1;cross 2;");
        due("pairs", Long.bitCount(z.rows(1)), 21);
        due("fours", Long.bitCount(z.rows(2)), 21 + 20 + 15);
        due("all but 0", z.rows(3), -2);
        Check.refused("65", () -> z.rows(65));
        Check.refused("-1", () -> z.rows(-1));
    }

    private static void promise24() {
        due("no sounds", new NoiseFields().stable(), 0);
        due("xor", Check.farmed("sound 5 2 3;sound 3 6 2;").stable(), 1);
        due("and", Check.farmed("sound 5 2 3;sound 3 6 2;sound 1 1 1;cross 1;").stable(), 0);
        due("or of six", Check.farmed("sound 1 1 1;sound 2 1 1;sound 4 1 1;sound 8 1 1;sound 16 1 1;sound 32 1 1;cross 2;").stable(), 3);
        NoiseFields x = Check.farmed("field 1;sound 1 1 1;cross 4;");
        due("turned", x.stable() * 10 + x.generation(2), 66);
        due("a new farm", Check.farm(x, "sound 5 2 3;sound 3 6 2;") * 10 + x.stable(), 1);
    }

    private static void promise25() {
        NoiseFields x = Check.farmed("field 4;field 0;field 9;sound 5 2 3;sound 3 6 2;");
        due("all ways", x.heard(0) * 10 + x.heard(1), 270);
        Check.book(x, "0 120;");
        due("of 120", x.heard(0) * 1000 + x.heard(1), 2002);
        Check.book(x, "0 7;");
        due("no way", x.heard(0) * 10 + x.heard(1), -1);
        Check.book(x, "0 9999;");
        due("no way", x.heard(0) * 10 + x.heard(1), -1);
        Check.book(x, "2 40;0 120;");
        due("two lines", x.heard(0) * 1000 + x.heard(1), 1100);
        due("work is nothing to it", Check.work(x, "sow 0 0;year;") * 10000 + x.heard(0) * 1000 + x.heard(1), 21100);
        Check.book(x, "");
        due("all ways again", x.heard(0), 27);
        Check.book(x, "0 0;");
        due("silence", x.heard(0) * 10 + x.heard(1), 10);
        NoiseFields y = Check.farmed(times(6, "field 1;") + times(6, "sound 1 4 1;"));
        due("all ways", y.heard(0), 117649);
        Check.book(y, "0 588;");
        due("all sown, of one loudness", y.heard(0), 46656);
        due("the first", y.heard(1), 111111);
        Check.refused("what 2", () -> y.heard(2));
        Check.refused("what -1", () -> y.heard(-1));
    }

    private static void promise26() {
        NoiseFields x = Check.farmed("field 4;field 0;field 9;sound 5 2 3;sound 3 6 2;");
        due("all ways", x.sure(0), -3);
        Check.book(x, "0 120;");
        due("of 120", x.sure(0) * 100 + x.sure(1) * 10 + x.sure(2), -323);
        Check.book(x, "0 7;");
        due("no way", x.sure(1), -1);
        Check.book(x, "0 120;2 40;");
        due("one way", x.sure(0) * 100 + x.sure(1) * 10 + x.sure(2), -22);
        Check.book(x, "0 360;1 180;");
        due("sound 1", x.sure(0), 1);
        NoiseFields y = Check.farmed("field 4;sound 1 4 1;sound 2 4 1;");
        Check.book(y, "0 240;");
        due("two of one loudness", y.sure(0), -3);
        due("no sounds", Check.farmed("field 1;").sure(0), -2);
        Check.missing("field 1", () -> y.sure(1));
        Check.missing("field -1", () -> y.sure(-1));
    }

    private static void promise27() {
        NoiseFields x = Check.farmed("field 4;field 0;field 9;sound 5 2 3;sound 3 6 2;");
        Check.book(x, "0 120;");
        due("next", x.ear(0) * 10 + x.ear(1), 11);
        Check.book(x, "0 7;");
        due("no way", x.ear(0) * 10 + x.ear(1), 0);
        due("no fields", new NoiseFields().ear(0) * 10 + new NoiseFields().ear(1), -11);
        NoiseFields y = Check.farmed("field 1;field 1;field 1;sound 1 1 1;");
        // at 0: 60, 30, 20 are all unlike, so are their sums; the first field is enough
        due("all told apart", y.ear(0) * 10 + y.ear(1), 1);
        // at 0: 60, 30 and twice each: 60 is 1 and 0 or 0 and 2; so 2 at the worst, at 1 likewise
        NoiseFields z = Check.farmed("field 1;field 1;sound 1 1 1;sound 1 2 1;");
        due("2 at the worst", z.ear(0) * 10 + z.ear(1), 2);
        due("sounds of one loudness", Check.farmed("field 1;sound 1 1 1;sound 2 1 1;").ear(1), 2);
        Check.refused("what 2", () -> z.ear(2));
        Check.refused("what -1", () -> z.ear(-1));
        due("no fields, what", new NoiseFields().status(1), 0);
    }

    private static void promise28() {
        NoiseFields x = worked();
        due("rests", x.against(0, 0) * 100 + x.against(0, 1), 201);
        NoiseFields y = Check.farmed("field 5;field 5;sound 1 1 20;sound 1 1 5;sound 1 1 9;hail 1;");
        Check.law(y, "3 + rest + near + same * 9");
        // 60, 15, 27, halves 30, 7, 13: both sow the first
        due("one", y.against(0, 0) * 100 + y.against(0, 1), 100);
        Check.work(y, "sow 1 0;");
        due("near is 0", y.against(0, 0) * 100 + y.against(0, 1), 100);
        Check.law(y, "1 + rest * 90");
        // 20, 5, 9, halves 10, 2, 4: with rest as it is all would be the same again
        due("rest is 0", y.against(0, 0) * 100 + y.against(0, 1), 100);
        Check.law(y, "least[1, 100 / price / 10 + near * 5 + rest * 5 - 0]");
        // 100 by 20 by 10 is 0, by 5 by 10 is 2, by 9 by 10 is 1: pay 0, 5, 9, halves 0, 2, 4
        due("two", y.against(0, 0) * 100 + y.against(0, 1), 212);
        Check.law(y, "0");
        due("all alike", y.against(0, 0) * 100 + y.against(0, 1), 900);
        Check.law(y, "hail * soil * (field + 1) / 5 * year");
        due("as it is", y.against(1, 0) * 100 + y.against(1, 1), 100);
        due("no sounds", Check.farmed("field 1;").against(0, 1), -1);
        Check.missing("field 2 ahead of what", () -> y.against(2, 2));
        Check.missing("field -1", () -> y.against(-1, 0));
        Check.refused("what 2", () -> y.against(0, 2));
        Check.refused("what -1", () -> y.against(0, -1));
    }

    private static void promise29() {
        NoiseFields x = worked();
        due("0 years", x.keeps(0, 0), 6);
        due("1 year", x.keeps(0, 1), 5);
        due("2 years", x.keeps(0, 2), 4);
        due("3 years, cut", x.keeps(0, 40), 3);
        due("nothing changes", x.sound(0, 3) * 10 + x.told(3), 62);
        Check.missing("sound 2 ahead of n", () -> x.keeps(2, 41));
        Check.missing("sound -1", () -> x.keeps(-1, 0));
        Check.refused("n 41", () -> x.keeps(0, 41));
        Check.refused("n -1", () -> x.keeps(0, -1));
        NoiseFields y = Check.farmed("field 9;sound 1 1 1;spoil 8;");
        Check.work(y, "sow 0 0;year;");
        due("all spoilt", y.sound(0, 3) * 100 + y.sound(0, 6), 18);
    }

    private static void promise30() {
        NoiseFields x = worked();
        due("no blight", x.blight(5, 0, 2, 0) * 100 + x.blight(5, 0, 2, 1) * 10 + x.blight(5, 0, 2, 2), 390);
        due("all blighted", x.blight(5, 16, 2, 0) * 10 + x.blight(5, 16, 2, 2), 4);
        due("nothing changes", x.told(3) * 10 + x.field(0, 0), 23);
        NoiseFields y = Check.farmed("field 9;field 9;field 9;sound 1 1 2;barn 0;order 1 0 1 5;spoil 8;");
        Check.law(y, "10");
        Check.work(y, "sow 0 0;sow 2 0;");
        // seed 1 draws 16838, 5758, 10113, 17515, 31051: by 16 they leave 6, 14, 1, 11, 11; field 1 is not sown
        due("below 1", y.blight(1, 1, 1, 0) * 100 + y.blight(1, 1, 1, 1) + y.blight(1, 1, 1, 2), 2040);
        due("below 6", y.blight(1, 6, 1, 0) * 100 + y.blight(1, 6, 1, 1) + y.blight(1, 6, 1, 2), 1021);
        due("below 7", y.blight(1, 7, 1, 0) * 100 + y.blight(1, 7, 1, 1) + y.blight(1, 7, 1, 2), 2);
        due("a second year", y.blight(1, 11, 2, 2), 2);
        Check.law(y, "soil + same * 20 + rest");
        due("years go on", y.blight(1, 0, 3, 0), 2 * (9 + 9 + 8 + 20 + 7 + 20));
        Check.refused("q 17", () -> y.blight(0, 17, 1, 0));
        Check.refused("q -1", () -> y.blight(0, -1, 1, 0));
        Check.refused("years 0", () -> y.blight(0, 0, 0, 0));
        Check.refused("years 21", () -> y.blight(0, 0, 21, 0));
        Check.refused("what 3", () -> y.blight(0, 0, 1, 3));
        Check.refused("what -1", () -> y.blight(0, 0, 1, -1));
    }

    private static void promise31() {
        NoiseFields x = Check.farmed("field 9;field 9;sound 1 1 2;");
        Check.law(x, "10");
        Check.work(x, "sow 0 0;sow 1 0;");
        int fewest = 99999;
        int most = 0;
        int all = 0;
        for (int seed = Integer.MAX_VALUE - 3, i = 0; i < 20; i++, seed++) {
            int bales = x.blight(seed, 7, 5, 0);
            fewest = Math.min(fewest, bales);
            most = Math.max(most, bales);
            all += bales;
        }
        due("fewest", x.span(Integer.MAX_VALUE - 3, 20, 7, 5, 0), fewest);
        due("most", x.span(Integer.MAX_VALUE - 3, 20, 7, 5, 1), most);
        due("all", x.span(Integer.MAX_VALUE - 3, 20, 7, 5, 2), all);
        due("they are unlike", fewest < most ? 1 : 0, 1);
        due("one", x.span(77, 1, 7, 5, 0), x.blight(77, 7, 5, 0));
        Check.refused("many 0", () -> x.span(0, 0, 0, 1, 0));
        Check.refused("many 21", () -> x.span(0, 21, 0, 1, 0));
        Check.refused("q 17", () -> x.span(0, 1, 17, 1, 0));
        Check.refused("q -1", () -> x.span(0, 1, -1, 1, 0));
        Check.refused("years 0", () -> x.span(0, 1, 0, 0, 0));
        Check.refused("years 21", () -> x.span(0, 1, 0, 21, 0));
        Check.refused("what 3", () -> x.span(0, 1, 0, 1, 3));
        Check.refused("what -1", () -> x.span(0, 1, 0, 1, -1));
    }

    private static void promise32() {
        NoiseFields x = worked();
        Check.work(x, "sell 0 2;sell 1 3;year;");
        // a second year: 2 more grown, 6 of the first sound, of which 1 is spoilt
        int[] due = {23, 5, 3, 6, 4, 1, 1};
        for (int what = 0; what <= 6; what++) {
            due("sums " + what, x.sums(what), due[what]);
        }
        Check.refused("what 7", () -> x.sums(7));
        Check.refused("what -1", () -> x.sums(-1));
    }

    private static void promise33() {
        NoiseFields x = worked();
        due("first", x.image(), 1);
        due("second", x.image(), 2);
        due("third", x.image(), 3);
        due("no more", x.image(), -1);
        due("images", x.count(0), 3);
    }

    private static void promise34() {
        NoiseFields x = worked();
        x.image();
        Check.work(x, "sell 0 6;sow 2 1;clear 1;clear 1;year;");
        x.image();
        Check.work(x, "year;");
        due("works", x.count(2), 3);
        x.undo();
        x.undo();
        x.undo();
        Check.law(x, "5");
        Check.book(x, "0 60;");
        due("restore", x.restore(), 1);
        // 18 for 6 bales, 70 for the second order
        due("year, pence, works, refused", x.told(3) * 1000 + x.told(4) * 10 + x.count(2) + x.told(7), 4382);
        due("law, book stay", x.would(0, 0, 0, 1, 0, 0) * 10 + x.told(6), 51);
        due("undo", x.undo(), 1);
        due("undone to", x.told(3) * 100 + x.told(4), 250);
        due("restore", x.restore(), 0);
        due("year, sown", x.told(3) * 10 + x.field(2, 2), 19);
        due("orders", x.order(0, 4) * 10 + x.order(1, 4), 10);
        due("undo", x.undo(), 0);
        due("undone to", x.told(3) * 100 + x.told(4), 100);
        due("none", x.restore(), -1);
        tapeOfAnImage();
    }

    /** An IMAGE is of all but the LAW and the BOOK, so of the TAPE too; a FAULT is the latest text's. */
    private static void tapeOfAnImage() {
        NoiseFields x = Check.farmed("field 1;");
        Check.feed(x, "field 3;field 4;");
        x.image();
        due("tape is read", x.law(3), -9);
        due("tape is empty", x.count(1), 0);
        Check.feed(x, "zzzz");
        due("restore", x.restore(), 0);
        due("tape is there", x.count(1), 20);
        due("fault of the latest text", x.fault(), 0);
        due("its bytes", x.farm(16), 2);
    }

    private static void promise35() {
        NoiseFields x = Check.farmed("field 1;");
        Check.missing("field", () -> x.field(1, 9));
        Check.refused("field's what", () -> x.field(0, 9));
        x.image();
        Check.refused("law", () -> x.law(1));
        x.restore();
        due("missing", x.status(0), 1);
        due("wrong", x.status(1), 2);
        due("others", x.status(2) + x.status(-1), -2);
        Check.farm(x, "field");
        x.undo();
        x.restore();
        x.image();
        due("answers are no refusals", x.status(0) * 10 + x.status(1), 12);
        due("a farm keeps them", x.farm(0) * 100 + x.status(0) * 10 + x.status(1), 12);
    }

    private static void promise36() {
        NoiseFields x = worked();
        x.image();
        x.image();
        x.feed(0, 0, 0, 0, 0);
        due("count", x.count(0) * 1000 + x.count(1) * 10 + x.count(2), 2201);
        due("others", x.count(3) + x.count(-1), -2);
    }

    private static void yearsEnd() {
        NoiseFields x = Check.farmed("field 9;field 9;field 9;sound 1 1 1;sound 1 9 1;barn 20;spoil 3;");
        Check.work(x, "sow 0 0;sow 1 1;sow 2 0;year;");
        // 18 - 2, 18 - 0, 18 - 2: the barn holds 16 and 4; 14 and 16 are lost; 6 and 1 are spoilt
        due("grown", x.sound(0, 4) * 100 + x.sound(1, 4), 3218);
        due("lost", x.sound(0, 7) * 100 + x.sound(1, 7), 1614);
        due("spoilt", x.sound(0, 6) * 100 + x.sound(1, 6), 601);
        due("held", x.sound(0, 3) * 100 + x.sound(1, 3), 1003);
        due("soil", x.field(0, 0) * 100 + x.field(1, 0) * 10 + x.field(2, 0), 888);
        due("stays sown", x.field(0, 2) * 100 + x.field(1, 2) * 10 + x.field(2, 2), 10);
        NoiseFields z = Check.farmed("field 9;sound 1 1 1;hail 1;hail 40;");
        Check.law(z, "hail");
        due("hail in year 1", z.yields(0, 0), 1);
        Check.work(z, "again 19[year;];again 20[year;];");
        due("hail in year 40", z.told(3) * 10 + z.yields(0, 0), 401);
        NoiseFields y = Check.farmed("field 9;sound 1 1 1;hail 3;");
        Check.law(y, "hail * 7 + year");
        Check.work(y, "sow 0 0;year;year;year;year;");
        due("1, 2, 10, 4", y.sums(0), 17);
        Check.work(y, "again 3[again 20[year;];];");
        Check.law(y, "hail");
        due("year 65", y.told(3) * 10 + y.yields(0, 0), 650);
        Check.work(y, "year;year;");
        due("hail does not come again", y.told(3) * 10 + y.yields(0, 0), 670);
        fullFarm();
    }

    private static void fullFarm() {
        NoiseFields x = Check.farmed(times(6, "field 9;") + "sound 1 1 1;sound 1 2 1;sound 1 3 1;sound 1 4 1;sound 1 5 1;"
            + "sound 1 6 1;barn 99;spoil 4;" + times(10, "order 1 5 1 1;"));
        Check.law(x, "10 + field");
        Check.work(x, "sow 0 0;sow 1 1;sow 2 2;sow 3 3;sow 4 4;sow 5 5;year;");
        for (int i = 0; i < 6; i++) {
            // 10 to 15 grown, of the last 10 delivered; half is spoilt
            int grown = 10 + i;
            int left = i == 5 ? 5 : grown;
            due("grown " + i, x.sound(i, 4), grown);
            due("left " + i, x.sound(i, 3), left - left / 2);
            due("spoilt " + i, x.sound(i, 6), left / 2);
            due("sold, lost " + i, x.sound(i, 5) * 100 + x.sound(i, 7), 0);
            due("delivered " + i, x.sound(i, 8), i == 5 ? 10 : 0);
            due("near " + i, x.field(i, 4), (i > 0 ? i : 0) + (i < 5 ? i + 2 : 0));
            due("soil, rest " + i, x.field(i, 0) * 10 + x.field(i, 1), 80);
            due("sown, last " + i, x.field(i, 2) * 10 + x.field(i, 3), i * 11);
        }
        due("year, pence", x.told(3) * 100 + x.told(4), 210);
    }

    public static void main(String[] args) {
        promise1();
        promise2();
        promise3();
        promise4();
        promise5();
        promise6();
        promise7();
        promise8();
        promise9();
        promise10();
        promise11();
        promise12();
        promise13();
        promise14();
        promise15();
        promise16();
        promise17();
        promise18();
        promise19();
        promise20();
        promise21();
        promise22();
        promise23();
        promise24();
        promise25();
        promise26();
        promise27();
        promise28();
        promise29();
        promise30();
        promise31();
        promise32();
        promise33();
        promise34();
        promise35();
        promise36();
        yearsEnd();
        Check.end("Promises");
    }
}
