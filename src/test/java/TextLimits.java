/** Terms, the first block: the limits of FARM, LAW, WORK and BOOK, and which FAULT comes at which place. */
public final class TextLimits {
    private static final String HUGE = "99999999999999999999999999999";

    private TextLimits() {
    }

    private static void due(String what, long got, long want) {
        Check.due(what, got, want);
    }

    private static String times(int n, String text) {
        return text.repeat(n);
    }

    /** Two fields and three sounds, with a LAW, a BOOK, an IMAGE, a WORK to undo, and steps REFUSED. */
    private static NoiseFields used() {
        NoiseFields x = Check.farmed("field 4;field 7;sound 5 2 3;sound 3 6 2;sound 9 1 1;order 1 0 2 5;barn 50;");
        Check.law(x, "soil + 1");
        Check.book(x, "0 120;");
        x.image();
        Check.work(x, "sow 0 0;clear 1;year;");
        return x;
    }

    private static int tell(NoiseFields x, char kind, String text) {
        switch (kind) {
            case 'f':
                return Check.farm(x, text);
            case 'l':
                return Check.law(x, text);
            case 'w':
                return Check.work(x, text);
            default:
                return Check.book(x, text);
        }
    }

    private static NoiseFields fine(char kind, String text, int answer) {
        NoiseFields x = used();
        due(kind + " '" + text + "'", tell(x, kind, text), answer);
        due("no fault in '" + text + "'", x.fault(), -1);
        due("tape behind '" + text + "'", x.count(1), 0);
        return x;
    }

    /** A text with a FAULT answers it less 10, tells its place, empties the TAPE, and changes nothing else. */
    private static void faulty(char kind, String text, int fault, int place) {
        NoiseFields x = used();
        String before = Whole.of(x);
        due(kind + " '" + text + "'", tell(x, kind, text), fault - 10);
        due("place in '" + text + "'", x.fault(), place);
        Check.same("all behind '" + text + "'", Whole.of(x), before);
    }

    /** The least and the most are taken, with noughts ahead too; what is beyond them is a FAULT 2 at its first byte. */
    private static void numbers(char kind, String ahead, int least, int most, String behind, int answer) {
        fine(kind, ahead + least + behind, answer);
        fine(kind, ahead + most + behind, answer);
        fine(kind, ahead + "0000000000000000000000" + most + behind, answer);
        if (least > 0) {
            faulty(kind, ahead + (least - 1) + behind, 2, ahead.length());
        }
        faulty(kind, ahead + (most + 1) + behind, 2, ahead.length());
        faulty(kind, ahead + HUGE + behind, 2, ahead.length());
        faulty(kind, ahead + (4294967296L + most) + behind, 2, ahead.length());
        faulty(kind, ahead + "-1" + behind, 1, ahead.length());
        faulty(kind, ahead + "+1" + behind, 1, ahead.length());
        faulty(kind, ahead + "  " + (most + 1) + behind, 2, ahead.length() + 2);
    }

    private static void farmNumbers() {
        numbers('f', "field ", 0, 9, ";", 1);
        numbers('f', "sound ", 0, 63, " 1 1;", 0);
        numbers('f', "sound 1 ", 1, 9, " 1;", 0);
        numbers('f', "sound 1 1 ", 0, 99, ";", 0);
        numbers('f', "sound 1 1 1;order ", 1, 40, " 0 1 1;", 0);
        numbers('f', "sound 1 1 1;sound 1 1 1;order 1 ", 0, 1, " 1 1;", 0);
        numbers('f', "sound 1 1 1;order 1 0 ", 1, 99, " 1;", 0);
        numbers('f', "sound 1 1 1;order 1 0 1 ", 0, 9999, ";", 0);
        numbers('f', "barn ", 0, 99, ";", 0);
        numbers('f', "spoil ", 0, 8, ";", 0);
        numbers('f', "hail ", 1, 40, ";", 0);
        numbers('f', "cross ", 0, 4, ";", 0);
        // K is told ahead: not behind, not the one that would come next
        faulty('f', "order 1 0 1 1;sound 1 1 1;", 2, 8);
        faulty('f', "sound 1 1 1;order 1 1 1 1;sound 1 1 1;", 2, 20);
        faulty('f', times(6, "sound 1 1 1;") + "order 1 6 1 1;", 2, 80);
        due("the sixth sound", fine('f', times(6, "sound 1 1 1;") + "order 1 5 1 1;", 0).order(0, 1), 5);
    }

    private static void farmValues() {
        NoiseFields x = fine('f', "field 0;field 9;sound 0 1 0;sound 63 9 99;order 1 0 1 0;order 40 1 99 9999;barn 0;", 2);
        due("soil", x.field(0, 0) * 10 + x.field(1, 0), 9);
        due("least sound", x.sound(0, 0) * 10000 + x.sound(0, 1) * 100 + x.sound(0, 2), 100);
        due("most sound", x.sound(1, 0) * 10000 + x.sound(1, 1) * 100 + x.sound(1, 2), 630999);
        due("least order", x.order(0, 0) * 1000 + x.order(0, 1) * 100 + x.order(0, 2) * 10 + x.order(0, 3), 1010);
        due("most order", x.order(1, 0) * 1000 + x.order(1, 1) * 100 + x.order(1, 2), 40199);
        due("most pence", x.order(1, 3), 9999);
        due("barn", x.told(8), 0);
        due("barn", fine('f', "barn 99;", 0).told(8), 99);
        due("20 without", fine('f', "", 0).told(8), 20);
        due("the last counts", fine('f', "barn 99;barn 3;", 0).told(8), 3);
        for (int cross = 0; cross <= 4; cross++) {
            due("cross " + cross, fine('f', "cross 4;cross " + cross + ";", 0).crossing(33, 3), new int[] {34, 1, 35, 1, 0}[cross]);
        }
        due("0 without", fine('f', "", 0).crossing(33, 3), 34);
        spoilValues();
        hailValues();
    }

    private static void spoilValues() {
        for (int spoil = 0; spoil <= 8; spoil++) {
            NoiseFields x = fine('f', "field 9;sound 1 1 1;spoil 3;spoil " + spoil + ";", 1);
            Check.work(x, "sow 0 0;year;");
            due("spoilt by " + spoil, x.sound(0, 6), 18 * spoil / 8);
        }
        NoiseFields y = fine('f', "field 9;sound 1 1 1;", 1);
        Check.work(y, "sow 0 0;year;");
        due("0 without", y.sound(0, 6), 0);
    }

    private static void hailValues() {
        NoiseFields x = fine('f', "field 9;sound 1 1 1;hail 40;hail 1;hail 40;", 1);
        Check.law(x, "hail * 6 + 1");
        due("hail in year 1", x.yields(0, 0), 7);
        Check.work(x, "year;");
        due("none in year 2", x.yields(0, 0), 1);
        Check.work(x, "again 18[year;];again 19[year;];");
        due("none in year 39", x.told(3) * 10 + x.yields(0, 0), 391);
        Check.work(x, "year;");
        due("hail in year 40, told twice", x.told(3) * 10 + x.yields(0, 0), 407);
        Check.work(x, "year;");
        due("none in year 41", x.told(3) * 10 + x.yields(0, 0), 411);
    }

    private static void farmCounts() {
        due("6 fields", fine('f', times(6, "field 1;"), 6).told(0), 6);
        faulty('f', times(6, "field 1;") + "  field 1;", 3, 50);
        due("6 sounds", fine('f', times(6, "sound 1 1 1;"), 0).told(1), 6);
        faulty('f', times(6, "sound 1 1 1;") + " sound 1 1 1;", 3, 73);
        due("10 orders", fine('f', "sound 1 1 1;" + times(10, "order 1 0 1 1;"), 0).told(2), 10);
        faulty('f', "sound 1 1 1;" + times(10, "order 1 0 1 1;") + " order 1 0 1 1;", 3, 153);
        fine('f', times(6, "hail 9;"), 0);
        fine('f', "hail 1;hail 2;hail 3;hail 4;hail 5;hail 6;", 0);
        faulty('f', "hail 1;hail 2;hail 3;hail 4;hail 5;hail 6; hail 7;", 3, 43);
        faulty('f', "hail 1;hail 1;hail 3;hail 4;hail 5;hail 6;hail 6;", 3, 42);
        due("60 clauses", fine('f', times(59, "barn 1;") + "barn 7;  ", 0).told(8), 7);
        faulty('f', times(60, "barn 1;") + " barn 1;", 3, 421);
        fine('f', times(54, "barn 1;") + times(6, "field 1;"), 6);
        faulty('f', times(55, "barn 1;") + times(6, "field 1;"), 3, 425);
        // what is too many is so at its word, whatever stands behind it; of one place the least FAULT
        faulty('f', times(6, "field 1;") + "field", 3, 48);
        faulty('f', times(6, "field 1;") + "field 99;", 3, 48);
        faulty('f', times(6, "field 1;") + "fields 1;", 1, 48);
        faulty('f', times(60, "barn 1;") + "barns 1;", 1, 420);
        faulty('f', times(60, "barn 1;") + ";", 1, 420);
        faulty('f', times(60, "barn 1;") + "field 10;", 3, 420);
        faulty('f', times(5, "field 1;") + "field 10;field 1;", 2, 46);
    }

    private static void lengths() {
        NoiseFields x = used();
        Check.feed(x, "field 5;" + " ".repeat(584) + "field 3;");
        due("600 bytes", x.farm(600) * 100 + x.field(0, 0) * 10 + x.field(1, 0), 253);
        length('l', times(74, "1+") + "1 ", 150, 1);
        length('w', times(40, "year;"), 200, 40);
        length('b', "0 0;" + " ".repeat(92) + "1 0;", 100, 2);
        // one byte of 20 less than the tape has
        NoiseFields y = used();
        Check.feed(y, "field 1;field 2;    ");
        due("fewer than there are", y.farm(8) * 10 + y.count(1), 10);
        Check.feed(y, "field 1;field 2;    ");
        due("as many as there are", y.farm(20), 2);
    }

    /** A text as long as may be is read to its end; one byte more is no length for it, whatever the TAPE has. */
    private static void length(char kind, String text, int most, int answer) {
        due("bytes of '" + text + "'", text.length(), most);
        fine(kind, text, answer);
        NoiseFields x = used();
        Check.feed(x, text + " ".repeat(20));
        int bytes = x.count(1);
        String before = Whole.of(x);
        Check.refused(kind + " of a byte more", () -> kind == 'l' ? x.law(most + 1) : kind == 'w' ? x.work(most + 1) : x.book(most + 1));
        Check.same("all behind a byte more", Whole.of(x), before);
        due("the tape stays", x.count(1), bytes);
    }

    private static void lawNumbers() {
        numbers('l', "", 0, 999, "", 1);
        numbers('l', "soil * ", 0, 999, " - 1", 1);
        numbers('l', "least[", 0, 999, ",1]", 1);
        due("999", fine('l', "999 - 990", 1).would(0, 0, 0, 1, 0, 0), 9);
    }

    private static void open() {
        fine('l', times(6, "(") + "1" + times(6, ")"), 1);
        fine('l', times(6, "least[") + "1" + times(6, ",1]"), 1);
        fine('l', times(6, "most[1,") + "1" + times(6, "]"), 1);
        fine('l', "(least[most[(least[1,most[1,2]]),3],4])", 1);
        faulty('l', times(7, "(") + "1" + times(7, ")"), 3, 6);
        faulty('l', times(6, "(") + " least[1,2]", 3, 7);
        faulty('l', times(6, "(") + "most[1,2]", 3, 6);
        faulty('l', times(6, "(") + "most", 3, 6);
        faulty('l', times(6, "(") + "mosts", 1, 6);
        faulty('l', times(6, "least[") + "(", 3, 36);
        faulty('l', times(6, "most[1,") + "least[1,1]", 3, 42);
        faulty('l', "least[((((((1", 3, 11);
        faulty('l', "least[1,((((((1", 3, 13);
        fine('l', "least[(((((1))))),(((((1)))))]", 1);
        // a 7th that can't stand there at all: of one the least
        faulty('l', times(6, "(") + "1(", 1, 7);
        faulty('l', times(6, "(") + "1 least[", 1, 8);
        // what is closed is open no more
        fine('l', "((((((1))))))*((((((1))))))-least[(((((1))))),1]+((((((1))))))", 1);
        fine('w', times(6, "again 1[") + times(6, "];"), 0);
        fine('w', times(2, times(6, "again 1[") + times(6, "];")), 0);
        faulty('w', times(6, "again 1[") + "  again 1[", 3, 50);
        faulty('w', times(6, "again 1[") + "again 21", 3, 48);
        faulty('w', times(6, "again 1[") + "again", 3, 48);
        faulty('w', times(6, "again 1[") + "agains", 1, 48);
        fine('w', times(5, "again 1[") + "again 1[];again 1[year;];" + times(5, "];"), 1);
    }

    private static void workNumbers() {
        numbers('w', "sow ", 0, 1, " 0;", 1);
        numbers('w', "sow 1 ", 0, 2, ";", 1);
        numbers('w', "sow 1 0;again 1[clear 0;];sow 0 0;clear ", 0, 1, ";", 4);
        numbers('w', "sow 0 0;sow 0 1;sow 0 2;year;year;year;sell ", 0, 2, " 99;", 6);
        numbers('w', "sell 1 ", 1, 99, ";", 0);
        numbers('w', "again ", 0, 20, "[];", 0);
        due("again 20", fine('w', "again 20[year;];", 20).told(3), 22);
        due("again 0", fine('w', "again 0[year;];", 0).told(3), 2);
        NoiseFields x = Check.farmed("sound 1 1 1;");
        due("no field to sow", Check.work(x, "sow 0 0;") * 10 + x.fault(), -76);
        due("no field to clear", Check.work(x, "clear 0;") * 10 + x.fault(), -74);
        NoiseFields y = Check.farmed("field 1;");
        due("no sound to sow", Check.work(y, "sow 0 0;") * 10 + y.fault(), -74);
        due("no sound to sell", Check.work(y, "sell 0 1;") * 10 + y.fault(), -75);
        due("a year goes without", Check.work(new NoiseFields(), "year;"), 1);
    }

    private static void bookNumbers() {
        numbers('b', "", 0, 1, " 0;", 1);
        numbers('b', "1 ", 0, 9999, ";", 1);
        faulty('b', "0 1; 0 1;", 2, 5);
        faulty('b', "0 1;00 99999;", 2, 4);
        fine('b', "1 1;0 1;", 2);
        NoiseFields x = Check.farmed(times(6, "field 1;"));
        due("6 lines", Check.book(x, "5 0;4 0;3 0;2 0;1 0;0 0;"), 6);
        // a 7th line has an F that was told or is none: of one the least
        due("7 lines", Check.book(x, "5 0;4 0;3 0;2 0;1 0;0 0; 3 0;") * 100 + x.fault(), -775);
        due("7 lines", Check.book(x, "5 0;4 0;3 0;2 0;1 0;0 0;6 0;") * 100 + x.fault(), -776);
        due("7 lines", Check.book(x, "5 0;4 0;3 0;2 0;1 0;0 0;;") * 100 + x.fault(), -876);
        due("6 lines stay", x.told(6), 6);
        due("no fields, no lines", Check.book(new NoiseFields(), "0 0;"), -8);
        due("no fields, an empty book", new NoiseFields().book(0), 0);
    }

    /**
     * Parts with blanks between them; "|" ahead of a part: the text may end there. Cut elsewhere it has a FAULT 1 at its
     * length; with what can't stand there instead of a part it has a FAULT 1 at that.
     */
    private static void parts(char kind, String marked, int answer) {
        String text = "";
        boolean mayEnd = false;
        for (String part : marked.split(" ")) {
            if (part.equals("|")) {
                mayEnd = true;
                continue;
            }
            if (!mayEnd) {
                faulty(kind, text, 1, text.length());
                faulty(kind, text + "  ", 1, text.length() + 2);
            }
            for (String wrong : new String[] {"!", "xyz", "Year", "\t", "\n", "\u0000", "\u00a0", "\u00ff", "{", "`", "/", ":", "@"}) {
                if (kind != 'l' || !wrong.equals("/")) {
                    faulty(kind, text + " " + wrong, 1, text.length() + 1);
                }
            }
            text = text + (text.isEmpty() ? "" : " ") + part;
            mayEnd = false;
        }
        String all = Whole.of(fine(kind, text, answer));
        Check.same("blanks at the end", Whole.of(fine(kind, text + "    ", answer)), all);
        Check.same("more blanks", Whole.of(fine(kind, "   " + text.replace(" ", "   "), answer)), all);
        Check.same("no blanks but between numbers", Whole.of(fine(kind, text.replaceAll("(?<![0-9]) | (?![0-9])", ""), answer)), all);
        faulty(kind, text + " !", 1, text.length() + 1);
        faulty(kind, text + "\t", 1, text.length());
    }

    private static void wordsAndSigns() {
        parts('f', "| field 1 ; | field 2 ; | sound 1 2 3 ; | order 1 0 1 1 ; | barn 1 ; | spoil 1 ; | hail 1 ; | cross 1 ;", 2);
        parts('l', "least [ 1 + ( soil * 2 ) , most [ 3 , 4 ] - 5 ] | / 6 | - same", 1);
        parts('w', "| again 2 [ sow 0 0 ; clear 1 ; sell 2 99 ; year ; again 0 [ ] ; ] ;", 4);
        parts('b', "| 0 1 ; | 1 2 ;", 2);
        // a word is as long as small letters stand there, a number as long as digits do
        faulty('f', "fieldz 1;", 1, 0);
        faulty('f', "fielda 1;", 1, 0);
        faulty('f', "fie ld 1;", 1, 0);
        faulty('f', "fiel", 1, 0);
        faulty('f', "field{1;", 1, 5);
        faulty('f', "field`1;", 1, 5);
        faulty('f', "fieLd 1;", 1, 0);
        faulty('f', "field 1/;", 1, 7);
        faulty('f', "field 1:;", 1, 7);
        faulty('f', "barn 9 9;", 1, 7);
        faulty('f', "barn 1x;", 1, 6);
        faulty('l', "soilrest", 1, 0);
        faulty('l', "soil rest", 1, 5);
        faulty('l', "9 9", 1, 2);
        faulty('l', "lea", 1, 0);
        faulty('l', "1 + again", 1, 4);
        faulty('w', "yearyear;", 1, 0);
        faulty('w', "year year;", 1, 5);
        faulty('w', "clear 0 0;", 1, 8);
        faulty('w', "least[];", 1, 0);
        faulty('w', "field 1;", 1, 0);
        faulty('b', "0 1 2;", 1, 4);
        faulty('b', "0,1;", 1, 1);
        // the first from the left
        faulty('f', "field 10;fields 1;", 2, 6);
        faulty('f', "fields 1;field 10;", 1, 0);
        faulty('l', "1000 + soils", 2, 0);
        faulty('l', "soils + 1000", 1, 0);
        faulty('w', "sow 9 9 9", 2, 4);
        faulty('b', "0 10000;x", 2, 2);
    }

    /** What stands behind the first n bytes is not read: neither a digit, nor a letter, nor a sign that would be missed. */
    private static void behindTheText() {
        NoiseFields x = used();
        Check.feed(x, "field 12;");
        due("a digit behind", x.farm(7) * 10 + x.fault(), -83);
        Check.feed(x, "field 1;field");
        due("a word behind", x.farm(8) * 10 + x.field(0, 0), 11);
        Check.feed(x, "field 1;");
        due("a sign behind", x.farm(7) * 10 + x.fault(), -83);
        Check.feed(x, "12");
        due("a digit behind", x.law(1) * 10 + x.would(0, 0, 0, 1, 0, 0), 11);
        Check.feed(x, "soils");
        due("a letter behind", x.law(4), 1);
        Check.feed(x, "year;year;");
        due("a step behind", x.work(5) * 10 + x.told(3), 12);
        Check.feed(x, "0 12;");
        due("a digit behind", x.book(3) * 10 + x.fault(), -87);
        Check.feed(x, "(1)");
        due("a bracket behind", x.law(2) * 10 + x.fault(), -88);
    }

    public static void main(String[] args) {
        farmNumbers();
        farmValues();
        farmCounts();
        lengths();
        lawNumbers();
        open();
        workNumbers();
        bookNumbers();
        wordsAndSigns();
        behindTheText();
        Check.end("TextLimits");
    }
}
