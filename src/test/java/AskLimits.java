/** Terms, the third block, and the calls that ask: which of alike ones is the first, and what is answered where there is nothing. */
public final class AskLimits {
    private static final String SIX_FIELDS = "field 5;field 5;field 5;field 5;field 5;field 5;";
    private static final int LEAST = Integer.MIN_VALUE;
    private static final int MOST = Integer.MAX_VALUE;

    private AskLimits() {
    }

    private static void due(String what, long got, long want) {
        Check.due(what, got, want);
    }

    private static NoiseFields lawful(String farm, String law) {
        NoiseFields x = Check.farmed(farm);
        due("law " + law, Check.law(x, law), 1);
        return x;
    }

    private static void best(String farm, String law, int pence, int digits) {
        NoiseFields x = lawful(farm, law);
        due("best pence by " + law, x.best(0), pence);
        due("best sowing by " + law, x.best(1), digits);
    }

    private static void bests() {
        best("", "5", 0, 0);
        best("field 1;", "5", 0, 0);
        best("sound 1 1 1;", "5", 0, 0);
        best("field 1;sound 1 1 3;", "5", 15, 1);
        // of alike ones the first: nothing ahead of SOUNDS, by number, FIELD by FIELD
        best("field 1;field 1;sound 1 1 0;sound 1 1 0;", "5", 0, 0);
        best("field 1;field 1;sound 1 1 3;sound 1 1 3;", "5", 30, 11);
        best("field 1;field 1;sound 1 1 3;sound 1 1 4;sound 1 1 4;", "5", 40, 22);
        best("field 1;field 1;sound 1 9 1;sound 1 1 1;", "5 - near", 8, 22);
        best("field 1;field 1;field 1;sound 1 9 1;", "5 - near", 10, 101);
        best("field 1;field 1;field 1;field 1;sound 1 9 1;", "5 - near", 10, 101);
        best("field 1;field 1;sound 1 3 1;sound 1 6 1;", "5 + near - loud", 10, 11);
        best("field 1;field 1;sound 1 3 1;sound 1 6 1;", "loud - near", 6, 2);
        // the loudest on both sides: 18
        best("field 1;field 1;field 1;sound 1 1 1;sound 1 9 1;", "near", 36, 222);
        best(SIX_FIELDS + "sound 1 9 1;", "near", 4 * 18 + 2 * 9, 111111);
        best(SIX_FIELDS + "sound 1 9 99;sound 1 9 99;", "99", 6 * 99 * 99, 111111);
        best(SIX_FIELDS + "sound 1 1 1;sound 1 1 1;sound 1 1 1;sound 1 1 1;sound 1 1 1;sound 1 1 2;", "field + 1", 42, 666666);
        best("field 1;field 1;field 1;sound 1 1 1;sound 1 2 1;", "field - 1", 1, 1);
        best("field 1;field 1;field 1;sound 1 1 1;sound 1 2 1;", "1 - field", 1, 100);
        best("field 1;field 1;field 1;sound 1 9 1;sound 1 9 1;", "near + 1", 39, 111);
        best("field 1;field 1;field 1;sound 1 9 1;sound 1 8 1;sound 1 1 1;", "near + 1", 39, 111);
        // only 10 near gives a bale: 5 and 5 come ahead of 1 and 9; what is last hangs on what is first
        best("field 1;field 1;field 1;sound 1 5 1;sound 1 1 1;sound 1 9 1;", "1 - (near - 10) * (near - 10)", 1, 111);
        best("field 1;field 1;field 1;sound 1 9 1;sound 1 1 1;sound 1 5 1;", "1 - (near - 10) * (near - 10)", 1, 112);
        // this YEAR: rest, same, hail as they are
        NoiseFields x = lawful("field 5;field 5;sound 1 1 1;sound 1 1 1;hail 2;", "rest * 10 + same * 3 + hail * 2 + year");
        Check.work(x, "sow 0 1;year;");
        due("same, hail, the second year", x.best(0), 7 + 94);
        due("the sound of last year, the first of alike ones", x.best(1), 21);
        due("what is sown is nothing to it", Check.work(x, "sow 1 1;clear 0;") * 100 + x.best(1), 221);
        due("a farm without fields", Check.farm(x, "sound 1 1 9;sound 1 1 9;") * 100 + x.best(0) * 10 + x.best(1), 0);
        due("nor sounds", x.farm(0) * 100 + x.best(0) * 10 + x.best(1), 0);
    }

    private static void turns(String farm, String law, int n, int pence, int digits) {
        NoiseFields x = lawful(farm, law);
        due("pence of " + n + " by " + law, x.turnsOf(0, n, 0), pence);
        due("turns of " + n + " by " + law, x.turnsOf(0, n, 1), digits);
    }

    private static void turnsOfAField() {
        turns("field 5;", "9", 1, 0, 0);
        turns("field 5;", "9", 5, 0, 0);
        turns("field 5;sound 1 1 2;", "9", 1, 18, 1);
        turns("field 5;sound 1 1 2;", "9", 5, 90, 11111);
        turns("field 5;sound 1 9 99;", "99", 5, 5 * 99 * 99, 11111);
        turns("field 5;sound 1 1 0;", "9", 5, 0, 0);
        turns("field 5;sound 1 1 2;sound 1 1 2;", "9", 3, 54, 111);
        // SOIL is 0 at least and 9 at most on the way
        turns("field 0;sound 1 1 1;", "soil + 5", 3, 15, 111);
        turns("field 1;sound 1 1 1;", "least[soil, 1]", 3, 2, 11);
        turns("field 0;sound 1 1 1;", "soil", 5, 5, 11);
        turns("field 9;sound 1 1 1;", "soil - 8", 2, 1, 1);
        turns("field 8;sound 1 1 1;", "soil - 8", 3, 1, 1);
        turns("field 9;sound 1 1 1;", "soil", 5, 35, 11111);
        turns("field 8;sound 1 1 1;", "soil * soil - 70", 3, 11, 1);
        // rest: 9, if never; 0 the YEAR behind one in which it is sown
        turns("field 5;sound 1 1 1;", "rest - 8", 5, 1, 1);
        turns("field 5;sound 1 1 1;", "rest", 5, 9 + 3, 10001);
        turns("field 5;sound 1 1 1;", "9 - rest", 5, 9 * 4, 11111);
        turns("field 5;sound 1 1 1;", "9 - rest", 1, 0, 0);
        turns("field 5;sound 1 1 1;sound 1 1 1;", "rest * 10", 3, 100, 101);
        // same: of the SOUND sown last, with empty YEARS between too
        turns("field 5;sound 1 1 1;sound 1 1 1;", "same", 5, 4, 11111);
        turns("field 5;sound 1 1 1;sound 1 1 1;", "1 - same", 3, 3, 121);
        turns("field 5;sound 1 1 1;", "same * rest", 5, 3, 10001);
        turns("field 5;sound 1 1 1;", "1 - same", 5, 1, 1);
        // the YEARS go on, with hail or without
        turns("field 5;sound 1 1 1;hail 1;hail 5;", "hail", 5, 2, 10001);
        turns("field 5;sound 1 1 1;hail 1;hail 5;", "hail", 4, 1, 1000);
        turns("field 5;sound 1 1 1;", "year - 4", 5, 1, 1);
        turns("field 5;sound 1 1 1;", "5 - year", 5, 10, 11110);
        NoiseFields x = lawful("field 5;sound 1 1 1;hail 40;", "hail + 1 - year / 41");
        Check.work(x, "again 18[year;];again 20[year;];");
        due("years 39 to 43", x.told(3) * 10 + x.turnsOf(0, 5, 0), 393);
        due("years 39 to 43", x.turnsOf(0, 5, 1), 11000);
        otherFieldsTurns();
        cornersOfTurns();
    }

    /** From the least SOIL and rest and the last of six SOUNDS, and from the most of all. */
    private static void cornersOfTurns() {
        String six = "sound 1 1 1;sound 1 1 1;sound 1 1 1;sound 1 1 1;sound 1 1 1;sound 1 1 1;";
        NoiseFields x = lawful("field 0;" + six, "soil * 10 + rest + same * 5");
        Check.work(x, "sow 0 5;year;");
        due("soil, rest, last", x.field(0, 0) * 100 + x.field(0, 1) * 10 + x.field(0, 3), 5);
        due("one year", x.turnsOf(0, 1, 0) * 10 + x.turnsOf(0, 1, 1), 56);
        // four empty YEARS: 40 + 4 + 5; three: 30 + 3 + 5 and 20 + 5
        due("five years", x.turnsOf(0, 5, 0) * 100000 + x.turnsOf(0, 5, 1), 6300066);
        Check.work(x, "sow 0 0;year;");
        due("soil, rest, last", x.field(0, 0) * 100 + x.field(0, 1) * 10 + x.field(0, 3), 0);
        due("one year", x.turnsOf(0, 1, 0) * 10 + x.turnsOf(0, 1, 1), 51);
        due("five years", x.turnsOf(0, 5, 0) * 100000 + x.turnsOf(0, 5, 1), 6300011);
        x.undo();
        Check.work(x, "clear 0;again 9[year;];");
        due("soil, rest, last", x.field(0, 0) * 100 + x.field(0, 1) * 10 + x.field(0, 3), 995);
        // 90 + 9 + 5 is cut to 99, which the first sound gives too; then 85, 75, 65, 55
        due("one year", x.turnsOf(0, 1, 0) * 10 + x.turnsOf(0, 1, 1), 991);
        due("five years", x.turnsOf(0, 5, 0), 99 + 85 + 75 + 65 + 55);
        due("five years", x.turnsOf(0, 5, 1), 11111);
    }

    /** Of a FIELD that is not the first: its own SOIL, rest, last, number; others stay sown as they are. */
    private static void otherFieldsTurns() {
        NoiseFields x = lawful("field 0;field 7;field 3;sound 1 2 1;sound 1 5 1;", "soil * 10 + rest");
        due("soil 7 to 5, never sown", x.turnsOf(1, 2, 0) * 100 + x.turnsOf(1, 2, 1), 13911);
        Check.work(x, "sow 1 1;sow 2 0;year;clear 1;year;");
        due("rest", x.field(1, 1) * 10 + x.field(2, 1), 10);
        due("own soil, own rest", x.turnsOf(1, 1, 0) * 100 + x.turnsOf(2, 1, 0), 7110);
        Check.law(x, "same * 10 + field");
        due("own last", x.turnsOf(1, 1, 0) * 100 + x.turnsOf(2, 1, 0), 1112);
        due("own last", x.turnsOf(1, 1, 1) * 10 + x.turnsOf(2, 1, 1), 21);
        Check.law(x, "near");
        due("as they are sown", x.turnsOf(0, 5, 0) * 1000 + x.turnsOf(1, 5, 0) * 10 + x.turnsOf(2, 5, 0), 100);
        due("its own sound is nothing to it", x.field(2, 2), 0);
    }

    private static void sets(NoiseFields x, int told, int ways, int first) {
        due("sets of " + told, x.sets(told, 0), ways);
        due("first set of " + told, x.sets(told, 1), first);
    }

    private static void setsOfSounds() {
        sets(new NoiseFields(), 0, 1, 0);
        sets(Check.farmed("field 1;field 1;"), 0, 1, 0);
        sets(Check.farmed("sound 1 1 1;"), 0, 1, 0);
        NoiseFields x = Check.farmed("field 1;field 1;field 1;sound 1 1 1;sound 1 2 1;sound 1 3 1;");
        sets(x, 0, 1, 0);
        sets(x, 1, 3, 1);
        sets(x, 3, 3, 3);
        // two times as loud does not drown, more does
        sets(x, 12, 6, 12);
        sets(x, 21, 6, 12);
        sets(x, 13, 2, 103);
        sets(x, 11, 3, 11);
        sets(x, 111, 1, 111);
        sets(x, 333, 1, 333);
        // 1 between 1 and 2 is drowned by 3, 2 at an end not
        sets(x, 112, 1, 121);
        sets(x, 113, 0, -1);
        // 2 next to 3 and 2: 5 by 4
        sets(x, 322, 1, 232);
        NoiseFields y = Check.farmed(SIX_FIELDS + "sound 1 1 1;sound 1 1 1;sound 1 1 1;sound 1 1 1;sound 1 1 1;sound 1 1 1;");
        sets(y, 6, 6, 6);
        sets(y, 666666, 1, 666666);
        sets(y, 654321, 720, 123456);
        sets(y, 65432, 720, 23456);
        sets(y, 111222, 20, 111222);
        due("what is sown is nothing to it", Check.work(y, "sow 0 0;") * 10000 + y.sets(11, 0), 10015);
        for (int wrong : new int[] {-1, LEAST, MOST, 7, 71, 17, 10, 101, 100000, 1111111, 1111111111, 2147483640, 8, 9}) {
            Check.refused("sets of " + wrong, () -> y.sets(wrong, 0));
            Check.refused("first set of " + wrong, () -> y.sets(wrong, 1));
        }
        Check.refused("a sound more than there are", () -> x.sets(4, 0));
        Check.refused("a sound more than fields", () -> x.sets(1111, 0));
        Check.refused("no fields", () -> Check.farmed("sound 1 1 1;").sets(1, 0));
        Check.refused("no sounds", () -> Check.farmed("field 1;").sets(1, 0));
    }

    private static void bred() {
        NoiseFields none = new NoiseFields();
        due("no sounds", none.stable() * 10 + none.generation(0) + none.generation(63), -2);
        due("no sounds", none.rows(0) + none.rows(64), 0);
        NoiseFields one = Check.farmed("sound 0 1 1;");
        due("row 0 alone", one.stable() * 100 + one.generation(0) * 10 + one.rows(64), 1);
        due("others never", one.generation(1) + one.generation(63), -2);
        NoiseFields top = Check.farmed("sound 63 1 1;sound 63 1 1;cross 2;");
        due("row 63", top.rows(0), Long.MIN_VALUE);
        due("row 63", top.rows(64), Long.MIN_VALUE);
        due("row 63", top.generation(63) * 10 + top.stable(), 0);
        for (int cross = 0; cross <= 4; cross++) {
            NoiseFields x = Check.farmed("cross " + cross + ";");
            int[] own = {0, 63, 63, 63, 0};
            int[] other = {63, 0, 63, 7, 63};
            int[] turned = {63, 0, 63, 56, 63};
            due("with itself by " + cross, x.crossing(63, 63), own[cross]);
            due("63 and 0 by " + cross, x.crossing(63, 0), other[cross]);
            due("0 and 63 by " + cross, x.crossing(0, 63), turned[cross]);
            due("0 and 0 by " + cross, x.crossing(0, 0), 0);
        }
        NoiseFields up = Check.farmed("cross 4;");
        due("the highest comes lowest", up.crossing(32, 0) * 100 + up.crossing(16, 0), 132);
        due("turned round, all places", up.crossing(0b101101, 0), 0b011011);
        // 1, 2, 4, .. by "any": 2 in a generation, 4 in two, 6 in three
        NoiseFields any = Check.farmed("sound 1 1 1;sound 2 1 1;sound 4 1 1;sound 8 1 1;sound 16 1 1;sound 32 1 1;cross 2;");
        due("first", any.generation(32) * 1000 + any.generation(48) * 100 + any.generation(7) * 10 + any.generation(63), 123);
        due("never", any.generation(0), -1);
        due("stable", any.stable(), 3);
        due("behind the last but one", Long.bitCount(any.rows(2)) * 100 + Long.bitCount(any.rows(3)), 5663);
        due("nothing more", any.rows(64) - any.rows(3), 0);
        // 1 and 4 by "up": 3, 6, 9, 12; of 6, which is new, and 4, which is not: 8, of 4 and 6 in this order 14
        NoiseFields orders = Check.farmed("sound 1 1 1;sound 4 1 1;cross 4;");
        due("both orders", orders.generation(6) * 1000 + orders.generation(8) * 100 + orders.generation(14) * 10 + orders.stable(), 1223);
        // all 64 rows come of these
        NoiseFields all = Check.farmed("sound 1 1 1;sound 2 1 1;sound 4 1 1;sound 8 1 1;sound 16 1 1;sound 32 1 1;");
        due("all", all.rows(64), -1);
        due("all at three", all.stable() * 10 + all.generation(63), 33);
        due("another farm", Check.farm(any, "sound 1 1 1;cross 1;") * 10 + any.stable(), 0);
        due("all again", Check.farm(any, "sound 5 1 1;sound 3 1 1;") * 10 + any.stable(), 1);
        due("a farm without sounds", any.farm(0) * 10 + any.stable(), 0);
        for (int wrong : new int[] {-1, 64, LEAST, MOST}) {
            Check.refused("generation of " + wrong, () -> all.generation(wrong));
            Check.refused("crossing of " + wrong, () -> all.crossing(wrong, 0));
            Check.refused("crossing with " + wrong, () -> all.crossing(63, wrong));
            Check.refused("rows of " + wrong, () -> all.rows(wrong == 64 ? 65 : wrong));
        }
        due("row 63", all.generation(63) * 100 + all.crossing(63, 1), 362);
    }

    private static void heard(NoiseFields x, String book, int ways, int first) {
        due("book " + book, Check.book(x, book) < 0 ? 1 : 0, 0);
        due("ways by " + book, x.heard(0), ways);
        due("first by " + book, x.heard(1), first);
    }

    private static void hearing() {
        NoiseFields none = new NoiseFields();
        heard(none, "", 1, 0);
        due("no ear", none.ear(0) * 10 + none.ear(1), -11);
        NoiseFields silent = Check.farmed("field 1;field 1;");
        heard(silent, "", 1, 0);
        heard(silent, "0 0;1 0;", 1, 0);
        due("nothing, surely", silent.sure(0) * 10 + silent.sure(1), -22);
        heard(silent, "0 1;", 0, -1);
        due("no way", silent.sure(0) * 10 + silent.sure(1), -11);
        due("the first ear, none left", silent.ear(0) * 10 + silent.ear(1), 0);
        NoiseFields six = Check.farmed(SIX_FIELDS + "sound 1 9 1;sound 1 1 1;sound 1 2 1;sound 1 3 1;sound 1 4 1;sound 1 5 1;");
        heard(six, "", 117649, 0);
        due("all ways", six.sure(0) * 10 + six.sure(5), -33);
        heard(six, "2 1575;", 1, 111111);
        due("the loudest", six.sure(0) * 10 + six.sure(5), 0);
        heard(six, "2 1576;", 0, -1);
        heard(six, "2 1599;", 0, -1);
        heard(six, "2 1600;", 0, -1);
        heard(six, "2 9999;", 0, -1);
        heard(six, "5 0;", 1, 0);
        heard(six, "5 10;", 1, 200000);
        heard(six, "0 540;1 270;2 180;3 135;4 108;5 90;", 1, 100000);
        due("that one", six.sure(0) * 10 + six.sure(1), -2);
        heard(six, "0 540;1 270;2 180;3 135;4 108;5 91;", 0, -1);
        heard(six, "5 91;0 540;", 0, -1);
        due("a book without lines", Check.book(six, ""), 0);
        heard(six, "", 117649, 0);
        NoiseFields alike = Check.farmed("field 1;field 1;sound 1 4 1;sound 2 4 1;sound 3 5 1;");
        heard(alike, "0 240;1 120;", 2, 10);
        due("one of two", alike.sure(0) * 10 + alike.sure(1), -32);
        heard(alike, "0 300;1 150;", 1, 30);
        due("the third", alike.sure(0) * 10 + alike.sure(1), 18);
        // nothing at 1 but 240 at 0 may be 4 in it; 120 at 0 is 4 in the other
        heard(alike, "0 120;", 2, 1);
        due("nothing there, one of two here", alike.sure(0) * 10 + alike.sure(1), -23);
        oneKindOfAll();
    }

    private static void oneKindOfAll() {
        NoiseFields x = Check.farmed(SIX_FIELDS + "sound 1 9 1;sound 1 9 1;sound 1 9 1;sound 1 9 1;sound 1 9 1;sound 1 9 1;");
        heard(x, "3 1575;", 46656, 111111);
        due("one of six", x.sure(3), -3);
        due("heard there already", x.ear(0) * 100000 + x.ear(1), 46656);
        heard(x, "3 0;", 1, 0);
        due("nothing", x.sure(3), -2);
        NoiseFields five = Check.farmed("field 1;field 1;field 1;field 1;field 1;sound 1 1 1;");
        // no others of 60, 30, 20, 15 and 12 make one of them
        heard(five, "0 60;", 1, 10000);
        heard(five, "0 30;", 1, 1000);
        heard(five, "0 20;", 1, 100);
        heard(five, "0 15;", 1, 10);
        heard(five, "0 12;", 1, 1);
        heard(five, "0 137;", 1, 11111);
        heard(five, "0 136;", 0, -1);
        due("one way of 32", Check.book(five, "") * 100 + five.heard(0), 32);
    }

    private static void ears() {
        NoiseFields one = Check.farmed("field 1;sound 1 1 1;sound 1 2 1;");
        due("one field", one.ear(0) * 10 + one.ear(1), 1);
        // at 0 and 1 alike: 60 and 30, of 1 and 2: 60 is 1 here or 2 there; the first of alike ones
        NoiseFields two = Check.farmed("field 1;field 1;sound 1 1 1;sound 1 2 1;");
        due("the first of alike ones", two.ear(0) * 10 + two.ear(1), 2);
        NoiseFields same = Check.farmed("field 1;field 1;field 1;sound 1 1 1;");
        // at 0: 60, 30, 20 all sums unlike; at 1: 30 at both sides
        due("at the end", same.ear(0) * 10 + same.ear(1), 1);
        Check.book(same, "0 60;");
        due("one way is left", same.heard(0) * 100 + same.ear(0) * 10 + same.ear(1), 101);
        // what was heard at 1 leaves two ways, which are told apart at 0
        Check.book(same, "1 30;");
        due("two ways", same.heard(0) * 100 + same.ear(0) * 10 + same.ear(1), 201);
        NoiseFields mid = Check.farmed("field 1;field 1;field 1;sound 1 1 1;sound 1 2 1;sound 1 3 1;");
        Check.book(mid, "0 0;");
        due("nothing to tell apart", mid.ear(0) * 10 + mid.ear(1), 1);
        // worked out by trying all ways elsewhere
        ear(2, "9 9", "", 9, 0, 4);
        ear(3, "1 2 3", "", 64, 0, 4);
        ear(4, "1 2 3", "", 256, 0, 8);
        ear(5, "1 4", "", 243, 0, 4);
        ear(6, "1 2 3 4 5 9", "", 117649, 0, 416);
        ear(6, "9 9 9 9 9 9", "", 117649, 0, 46656);
        ear(4, "3 6", "0 360;", 3, 1, 1);
        ear(5, "1 2", "2 120;", 13, 0, 1);
        ear(6, "1", "0 60;", 2, 1, 1);
        ear(6, "2 3", "3 180;", 16, 0, 1);
        ear(6, "1 2 3", "0 120;", 20, 1, 1);
    }

    private static void ear(int fields, String louds, String book, int ways, int field, int left) {
        StringBuilder farm = new StringBuilder("field 1;".repeat(fields));
        for (String loud : louds.split(" ")) {
            farm.append("sound 1 ").append(loud).append(" 1;");
        }
        NoiseFields x = Check.farmed(farm.toString());
        Check.book(x, book);
        String what = fields + " fields, sounds " + louds + ", book " + book;
        due("ear by " + what, x.ear(0), field);
        due("left by " + what, x.ear(1), left);
        due("ways by " + what, x.heard(0), ways);
    }

    private static void against(String farm, String law, int rests, int first) {
        NoiseFields x = lawful(farm, law);
        due("rests by " + law + " in " + farm, x.against(0, 0), rests);
        due("the first by " + law + " in " + farm, x.against(0, 1), first);
    }

    private static void farmers() {
        against("field 1;", "1", 0, -1);
        against("field 1;sound 1 1 9;", "1", 1, 0);
        // half of it is as much as the other: no more by another one
        against("field 1;sound 1 1 20;sound 1 1 10;", "1", 3, 0);
        against("field 1;sound 1 1 21;sound 1 1 10;", "1", 3, 0);
        against("field 1;sound 1 1 22;sound 1 1 10;", "1", 1, 0);
        against("field 1;sound 1 1 19;sound 1 1 10;", "1", 2, 1);
        against("field 1;sound 1 1 10;sound 1 1 22;", "1", 1, 11);
        against("field 1;sound 1 1 10;sound 1 1 19;", "1", 2, 1);
        against("field 1;sound 1 1 1;sound 1 1 0;", "1", 3, 0);
        against("field 1;sound 1 1 0;sound 1 1 0;", "1", 4, 0);
        against("field 1;sound 1 1 5;sound 1 1 5;sound 1 1 5;sound 1 1 5;sound 1 1 5;sound 1 1 5;", "1", 30, 1);
        against("field 1;sound 1 1 1;sound 1 1 1;sound 1 1 1;sound 1 1 1;sound 1 1 1;sound 1 1 99;", "1", 1, 55);
        // the YIELD of this YEAR and FIELD: soil as it is; rest, near, same 0
        against("field 1;sound 1 1 1;sound 1 1 9;", "rest + near + same", 4, 0);
        NoiseFields x = lawful("field 3;field 7;field 2;sound 1 2 9;sound 1 3 4;hail 2;", "rest + near + same");
        Check.work(x, "sow 0 0;sow 1 0;sow 2 0;year;year;sow 2 1;clear 1;year;");
        due("a field that rests next to sown ones", x.against(1, 0) * 10 + x.against(1, 1), 40);
        due("a field that was sown", x.against(2, 0) * 10 + x.against(2, 1), 40);
        Check.law(x, "(soil - 6) * (3 - loud)");
        due("soil as it is", x.field(1, 0) * 100 + x.against(1, 0) * 10 + x.against(1, 1), 640);
        Check.law(x, "(soil - 5) * (3 - loud)");
        due("soil as it is", x.against(1, 0) * 10 + x.against(1, 1), 10);
        Check.law(x, "(year - 3) * (3 - loud) * (field - 1)");
        due("its year and number", x.against(2, 0) * 100 + x.against(1, 0) * 10 + x.against(0, 0), 144);
    }

    private static void keeping() {
        NoiseFields x = lawful("field 5;sound 1 1 1;sound 1 1 1;spoil 4;barn 99;", "98 + same");
        due("none there", x.keeps(0, 0) + x.keeps(1, 40), 0);
        Check.work(x, "sow 0 1;year;");
        int[] left = {49, 25, 13, 7, 4, 2, 1, 1};
        for (int n = 0; n < left.length; n++) {
            due("left behind " + n, x.keeps(1, n), left[n]);
        }
        due("the last, cut", x.keeps(1, 40) * 100 + x.keeps(0, 0), 100);
        NoiseFields all = lawful("field 5;sound 1 1 1;spoil 8;", "9");
        Check.work(all, "sow 0 0;");
        due("as it is sown, not yet grown", all.keeps(0, 1), 0);
        NoiseFields nothing = lawful("field 5;sound 1 1 1;", "9");
        Check.work(nothing, "sow 0 0;year;");
        due("nothing is spoilt", nothing.keeps(0, 40), 9);
    }

    private static void blight(NoiseFields x, String what, int[] told, int bales, int struck) {
        due("bales, " + what, x.blight(told[0], told[1], told[2], 0), bales);
        due("pence, " + what, x.blight(told[0], told[1], told[2], 1), 3 * bales);
        due("struck, " + what, x.blight(told[0], told[1], told[2], 2), struck);
        due("a span of one, " + what, x.span(told[0], 1, told[1], told[2], 0), bales);
        due("a span of one, " + what, x.span(told[0], 1, told[1], told[2], 1), bales);
        due("a span of one, " + what, x.span(told[0], 1, told[1], told[2], 2), bales);
    }

    private static void blights() {
        due("no fields", new NoiseFields().blight(1, 16, 20, 2), 0);
        NoiseFields x = lawful("field 5;sound 1 1 3;barn 0;spoil 8;order 1 0 1 9;", "10");
        due("nothing sown", x.blight(1, 16, 20, 2) + x.blight(1, 0, 20, 0), 0);
        Check.work(x, "sow 0 0;");
        // seed 1 draws 16838, 5758, 10113, 17515, 31051, 5627, 23010, 7419, 16212, 4086, ..: by 16 6, 14, 1, 11, 11, 11, 2, 11, 4, 6
        blight(x, "none", new int[] {1, 0, 10}, 100, 0);
        blight(x, "below 1", new int[] {1, 1, 10}, 100, 0);
        blight(x, "below 2", new int[] {1, 2, 10}, 90, 1);
        blight(x, "below 6", new int[] {1, 6, 10}, 70, 3);
        blight(x, "below 7", new int[] {1, 7, 10}, 50, 5);
        blight(x, "below 11", new int[] {1, 11, 10}, 50, 5);
        blight(x, "below 12", new int[] {1, 12, 10}, 10, 9);
        blight(x, "below 15", new int[] {1, 15, 10}, 0, 10);
        blight(x, "all", new int[] {1, 16, 10}, 0, 10);
        blight(x, "all of 20", new int[] {LEAST, 16, 20}, 0, 20);
        blight(x, "none of 20", new int[] {MOST, 0, 20}, 200, 0);
        // seed 0 becomes 12,345, whose bits 16 to 30 are 0
        due("seed 0 draws 0", x.blight(0, 1, 1, 2), 1);
        due("seed -1", x.blight(-1, 1 + drawn(-1), 1, 2) * 10 + x.blight(-1, drawn(-1), 1, 2), 10);
        due("seed of the most", x.blight(MOST, 1 + drawn(MOST), 1, 2) * 10 + x.blight(MOST, drawn(MOST), 1, 2), 10);
        due("seed of the least", x.blight(LEAST, 1 + drawn(LEAST), 1, 2) * 10 + x.blight(LEAST, drawn(LEAST), 1, 2), 10);
        due("nothing stays changed", x.told(3) * 100 + x.told(5) * 10 + x.order(0, 4), 100);
        Check.law(x, "7");
        due("a span ahead of a blight", x.span(1, 20, 0, 2, 2), 20 * 2 * 7);
        Check.law(x, "10");
        blightYears();
        spans(x);
    }

    /** The first draw of a seed, by 16, without wrapping numbers. */
    private static int drawn(int seed) {
        java.math.BigInteger next = java.math.BigInteger.valueOf(seed).multiply(java.math.BigInteger.valueOf(1103515245L))
            .add(java.math.BigInteger.valueOf(12345L)).mod(java.math.BigInteger.ONE.shiftLeft(32));
        return next.shiftRight(16).intValue() % 32768 % 16;
    }

    /** The YEARS go on as they would: soil, rest, same, hail; a blighted FIELD is sown all the same. */
    private static void blightYears() {
        NoiseFields x = lawful("field 2;field 8;sound 1 1 1;hail 3;hail 20;", "hail * 10");
        Check.work(x, "sow 0 0;");
        due("up to year 2", x.blight(9, 0, 2, 0), 0);
        due("up to year 3", x.blight(9, 0, 3, 0), 10);
        due("up to year 19", x.blight(9, 0, 19, 0), 10);
        due("up to year 20", x.blight(9, 0, 20, 0), 20);
        Check.law(x, "soil");
        due("soil 2, 1, 0, 0", x.blight(9, 0, 4, 0), 3);
        Check.law(x, "rest");
        due("rest 9, 0, 0", x.blight(9, 0, 3, 0), 9);
        Check.law(x, "same");
        due("same 0, 1, 1", x.blight(9, 0, 3, 0), 2);
        Check.law(x, "99");
        due("20 years of 99", x.blight(9, 0, 20, 0), 1980);
        Check.law(x, "year");
        due("1 to 20", x.blight(9, 0, 20, 0), 210);
        // seed 1: 6 and 14, then 1 and 11: with both sown below 7 strikes the first FIELD in both YEARS
        Check.work(x, "sow 1 0;");
        due("year 1 and 2 of the second", x.blight(1, 7, 2, 0) * 10 + x.blight(1, 7, 2, 2), 32);
        Check.law(x, "soil + same");
        due("struck, but sown: soil 8, 7 and same", x.blight(1, 7, 2, 0), 8 + 8);
        due("below 2 the first in year 2: soil 2, 8, 7 and same", x.blight(1, 2, 2, 0), 2 + 8 + 8);
        due("in year 2 the first one's soil is 1", x.blight(1, 0, 2, 0), 2 + 8 + 2 + 8);
    }

    private static void spans(NoiseFields x) {
        due("20 seeds, none struck", x.span(1, 20, 0, 20, 0) + x.span(1, 20, 0, 20, 1) + x.span(1, 20, 0, 20, 2), 200 + 200 + 4000);
        due("20 seeds, all struck", x.span(1, 20, 16, 20, 0) + x.span(1, 20, 16, 20, 1) + x.span(1, 20, 16, 20, 2), 0);
        // one YEAR of a seed: struck, if its first draw is below Q
        for (int seed : new int[] {1, -10, MOST - 9, MOST, LEAST}) {
            int all = 0;
            for (int i = 0; i < 20; i++) {
                all += drawn(seed + i) < 8 ? 0 : 10;
            }
            due("seeds from " + seed, x.span(seed, 20, 8, 1, 2), all);
            due("fewest from " + seed, x.span(seed, 20, 8, 1, 0), 0);
            due("most from " + seed, x.span(seed, 20, 8, 1, 1), 10);
        }
    }

    public static void main(String[] args) {
        bests();
        turnsOfAField();
        setsOfSounds();
        bred();
        hearing();
        ears();
        farmers();
        keeping();
        blights();
        Check.end("AskLimits");
    }
}
