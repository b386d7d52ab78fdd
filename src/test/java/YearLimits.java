/** Terms, the second block: what a STEP does and is REFUSED, 200 STEPS, the end of a YEAR, LOUDNESS and DROWNED, at their edges. */
public final class YearLimits {
    private YearLimits() {
    }

    private static void due(String what, long got, long want) {
        Check.due(what, got, want);
    }

    private static String times(int n, String text) {
        return text.repeat(n);
    }

    private static NoiseFields lawful(String farm, String law, String work) {
        NoiseFields x = Check.farmed(farm);
        due("law " + law, Check.law(x, law), 1);
        due("no fault in " + work, Math.min(0, Check.work(x, work)), 0);
        return x;
    }

    private static void first() {
        NoiseFields x = Check.farmed(times(6, "field 3;") + times(6, "sound 1 1 1;") + times(10, "order 1 0 1 1;"));
        due("year 1, no pence, no bales", x.told(3) * 100 + x.told(4) * 10 + x.told(5), 100);
        for (int i = 0; i < 6; i++) {
            due("nothing sown, nor last", x.field(i, 2) * 10 + x.field(i, 3), -11);
            due("never sown", x.field(i, 1), 9);
            for (int what = 3; what <= 8; what++) {
                due("no bales", x.sound(i, what), 0);
            }
        }
        for (int i = 0; i < 10; i++) {
            due("open", x.order(i, 4), 0);
        }
        for (int what = 0; what <= 6; what++) {
            due("sums " + what, x.sums(what), 0);
        }
    }

    /** What is REFUSED changes nothing but the count of it; the WORK is one that can be undone all the same. */
    private static void refused(NoiseFields x, String step) {
        String before = Whole.of(x);
        due(step, Check.work(x, step), 0);
        due("refused: " + step, x.told(7), 1);
        due("undone: " + step, x.undo(), x.count(2));
        Check.same("all behind " + step, Whole.of(x), before);
        Check.work(x, step);
        String behind = Whole.of(x).replace("told7=1", "told7=0").replace("count2=" + x.count(2), "count2=" + (x.count(2) - 1));
        Check.same("all by " + step, behind, before);
        x.undo();
    }

    private static void steps() {
        NoiseFields x = Check.farmed("field 5;sound 1 1 7;");
        refused(x, "clear 0;");
        refused(x, "sell 0 1;");
        // 10 bales of the one and 89 of the other, as many as the barn holds
        NoiseFields y = lawful("field 5;field 5;sound 1 1 7;sound 1 1 3;barn 99;", "field * 79 + 10", "sow 0 0;sow 1 1;year;clear 0;");
        refused(y, "sell 0 11;");
        refused(y, "sell 0 99;");
        refused(y, "sell 1 90;");
        refused(y, "clear 0;");
        due("all that are there", Check.work(y, "sell 0 10;") * 1000 + y.told(4), 1070);
        due("none left", y.sound(0, 3) * 100 + y.sound(0, 5), 10);
        refused(y, "sell 0 1;");
        due("one less than there are", Check.work(y, "sell 1 88;sell 1 1;"), 2);
        due("sold", y.sound(1, 3) * 100 + y.sound(1, 5), 89);
        due("pence", y.told(4), 70 + 89 * 3);
        due("a refused step ends nothing", Check.work(y, "sell 1 1;clear 0;sow 0 1;clear 0;clear 0;year;") * 10 + y.told(7), 33);
        NoiseFields z = lawful("field 5;sound 1 1 7;sound 1 1 3;", "1", "sow 0 1;sow 0 1;sow 0 0;");
        due("sown instead, the same again too", z.told(7) * 10 + z.field(0, 2), 0);
        due("99 bales", Check.work(lawful("field 5;sound 1 1 7;barn 99;", "99", "sow 0 0;year;"), "sell 0 99;"), 1);
    }

    private static void twoHundred(String text, int done, int refused, int year) {
        NoiseFields x = Check.farmed("field 5;sound 1 1 7;");
        due(text, Check.work(x, text), done);
        due("refused in " + text, x.told(7), refused);
        due("year behind " + text, x.told(3), year);
        due("a work behind it begins anew", Check.work(x, "year;") * 1000 + x.told(3), 1001 + year);
    }

    private static void limit() {
        // 1 + 9 * 21 are 190 begun, 180 of them REFUSED
        twoHundred("again 9[again 20[clear 0;];];" + times(9, "year;"), 9, 180, 10);
        twoHundred("again 9[again 20[clear 0;];];" + times(10, "year;"), 10, 180, 11);
        twoHundred("again 9[again 20[clear 0;];];" + times(11, "year;"), 10, 180, 11);
        twoHundred("again 9[again 20[clear 0;];];again 9[year;];year;", 9, 180, 10);
        twoHundred("again 9[again 20[clear 0;];];again 8[year;];year;", 9, 180, 10);
        twoHundred("again 9[again 20[clear 0;];];again 8[year;];clear 0;year;", 8, 181, 9);
        // an again is begun each time it is come to, with nothing in it too: 1 + 20 * 9 and 1 + 17 are 199
        twoHundred("again 20[" + times(9, "again 0[];") + "];again 17[year;];year;", 18, 0, 19);
        twoHundred("again 20[" + times(9, "again 0[];") + "];again 18[year;];year;", 18, 0, 19);
        twoHundred("again 20[" + times(9, "again 0[];") + "];again 20[year;];year;", 18, 0, 19);
        // the 200th is an again: it is begun, what is in it is not
        twoHundred("again 9[again 20[clear 0;];];" + times(9, "year;") + "again 5[year;];year;", 9, 180, 10);
        twoHundred("again 9[again 20[clear 0;];];" + times(8, "year;") + "again 5[year;];year;", 9, 180, 10);
        // in the middle of an again: 1 + 9 * 22 are 199, the 200th is the again within
        twoHundred("again 20[again 20[clear 0;];year;];", 9, 180, 10);
        twoHundred("again 20[again 20[year;];clear 0;];", 180, 9, 181);
        twoHundred(times(6, "again 20[") + times(6, "];") + "year;", 0, 0, 1);
        // 5 + 9 * 21 are 194, then an again and 5 years
        twoHundred(times(6, "again 20[") + "year;" + times(6, "];"), 185, 0, 186);
    }

    private static void soil() {
        NoiseFields x = lawful("field 0;field 1;field 8;field 9;field 9;field 0;sound 1 1 1;", "1", "sow 0 0;sow 1 0;sow 4 0;year;");
        int[] once = {0, 0, 9, 9, 8, 1};
        int[] twice = {0, 0, 9, 9, 7, 2};
        for (int field = 0; field < 6; field++) {
            due("soil of " + field, x.field(field, 0), once[field]);
        }
        Check.work(x, "year;");
        for (int field = 0; field < 6; field++) {
            due("soil of " + field, x.field(field, 0), twice[field]);
        }
        // all as they stand: what is sown next to a field, and its own soil, ahead of the end
        NoiseFields y = lawful("field 3;field 6;field 2;sound 1 1 1;sound 1 5 1;barn 99;", "soil * 10 + near", "sow 0 0;sow 1 1;sow 2 0;year;");
        due("first and last", y.sound(0, 4), 35 + 25);
        due("between", y.sound(1, 4), 62);
        due("soil then", y.field(0, 0) * 100 + y.field(1, 0) * 10 + y.field(2, 0), 251);
        NoiseFields full = lawful("field 1;field 2;field 3;field 4;field 5;field 9;sound 1 1 1;", "1", "year;");
        for (int field = 0; field < 6; field++) {
            due("six empty ones, soil of " + field, full.field(field, 0), field == 5 ? 9 : field + 2);
            due("six empty ones, rest, sown, last of " + field, full.field(field, 1) * 100 + full.field(field, 2) * 10 + full.field(field, 3), 889);
        }
        // sown and cleared within a YEAR is not sown at its end
        NoiseFields z = lawful("field 3;sound 1 1 1;", "5", "sow 0 0;clear 0;year;");
        due("not sown", z.field(0, 0) * 1000 + z.field(0, 1) * 100 + z.sums(0) * 10 + z.field(0, 3), 4899);
    }

    private static void rest() {
        NoiseFields x = lawful("field 5;sound 1 1 1;sound 1 1 1;", "rest * 10 + same", "");
        due("never sown", x.field(0, 1) * 1000 + x.yields(0, 0) * 10 + x.yields(0, 0) % 10, 9900);
        Check.work(x, "sow 0 0;");
        due("sown this year, not over", x.field(0, 1) * 100 + x.yields(0, 0), 990);
        Check.work(x, "year;");
        due("sown the year ahead", x.field(0, 1) * 100 + x.yields(0, 0) * 10 + x.yields(0, 1), 10);
        Check.work(x, "clear 0;year;");
        due("a year between", x.field(0, 1) * 1000 + x.yields(0, 0) * 10 + x.yields(0, 1), 1120);
        Check.work(x, "again 7[year;];");
        due("8", x.field(0, 1) * 1000 + x.yields(0, 0), 8081);
        Check.work(x, "year;");
        due("9", x.field(0, 1) * 1000 + x.yields(0, 0), 9091);
        Check.work(x, "year;");
        due("no more than 9", x.field(0, 1) * 1000 + x.yields(0, 0), 9091);
        Check.work(x, "sow 0 1;");
        due("last in a year that is over", x.field(0, 3) * 1000 + x.yields(0, 0) * 10 + x.yields(0, 1) % 10, 910);
        Check.work(x, "year;");
        due("another one then", x.field(0, 3) * 1000 + x.yields(0, 0) * 10 + x.yields(0, 1), 1001);
    }

    private static void bales(String law, int want) {
        NoiseFields x = lawful("field 5;sound 1 1 1;barn 99;", law, "sow 0 0;year;");
        due("grown by " + law, x.sound(0, 4), want);
        due("would by " + law, x.would(5, 9, 0, 1, 0, 0), want);
        due("0 lost by " + law, x.sound(0, 7), 0);
    }

    private static void yields() {
        bales("0 - 1", 0);
        bales("0", 0);
        bales("1", 1);
        bales("98", 98);
        bales("99", 99);
        bales("100", 99);
        bales("0 - 999 * 999 * 999", 0);
        // it wraps: 65536 * 32768 is the least number, one less is the greatest
        bales("256 * 256 * 256 * 128", 0);
        bales("256 * 256 * 256 * 128 - 1", 99);
        bales("256 * 256 * 256 * 256", 0);
        bales("256 * 256 * 256 * 256 + 7", 7);
        bales("256 * 256 * 256 * 128 / (0 - 1) + 1", 0);
        bales("256 * 256 * 256 * 128 / (0 - 1) - 1 - 999 * 999 * 999 - 999 * 999 * 999 - 999*999*153", 99);
        // / cuts towards 0; by 0 it is 0
        bales("7 / 2", 3);
        bales("10 + (0 - 7) / 2", 7);
        bales("10 + 7 / (0 - 2)", 7);
        bales("0 / 0", 0);
        bales("5 / 0 + 5", 5);
        bales("(0 - 5) / 0 + 5", 5);
        bales("5 / (soil - soil)", 0);
        bales("20 / 3 * 3", 18);
        bales("20 - 5 - 5", 10);
        bales("2 * 3 + 4 * 5", 26);
        bales("least[3, 3] * 10 + most[4, 4]", 34);
        bales("most[0 - 5, 0 - 9] + 9", 4);
        bales("least[0 - 5, 0 - 9] + 9", 0);
    }

    private static void barn(int holds, int first, int second) {
        NoiseFields x = lawful("field 5;field 5;sound 1 1 1;sound 1 1 1;barn " + holds + ";", "10", "sow 0 0;sow 1 1;year;");
        due("held of the first by " + holds, x.sound(0, 3), first);
        due("held of the second by " + holds, x.sound(1, 3), second);
        due("lost of the first by " + holds, x.sound(0, 7), 10 - first);
        due("lost of the second by " + holds, x.sound(1, 7), 10 - second);
        due("grown by " + holds, x.sound(0, 4) * 100 + x.sound(1, 4), 1010);
        due("all lost by " + holds, x.sums(3), 20 - first - second);
    }

    private static void barns() {
        barn(0, 0, 0);
        barn(1, 1, 0);
        barn(9, 9, 0);
        barn(10, 10, 0);
        barn(11, 10, 1);
        barn(19, 10, 9);
        barn(20, 10, 10);
        barn(21, 10, 10);
        // what is there already takes room; what goes to an ORDER makes room only for the next YEAR
        NoiseFields x = lawful("field 5;sound 1 1 1;sound 1 1 1;order 2 0 14 5;barn 15;", "10", "sow 0 0;year;sow 0 1;year;");
        due("room for five", x.sound(1, 3) * 100 + x.sound(1, 7), 505);
        due("14 of 10 are not there", x.order(0, 4) * 100 + x.sound(0, 3), 210);
        NoiseFields y = lawful("field 5;sound 1 1 1;order 2 0 15 5;barn 15;", "10", "sow 0 0;year;year;");
        due("15 of 15", y.order(0, 4) * 100 + y.sound(0, 3), 100);
        due("5 lost", y.sound(0, 7), 5);
        Check.work(y, "year;");
        due("room again", y.sound(0, 3) * 10 + y.sound(0, 7), 105);
        due("full", Check.work(y, "year;") * 100 + y.told(5), 115);
        due("room made by selling", Check.work(y, "sell 0 3;year;") * 100 + y.told(5), 215);
        due("lost", y.sound(0, 7), 5 + 5 + 7);
    }

    private static void orders() {
        // 10 bales
        NoiseFields x = lawful("field 5;sound 1 1 1;order 1 0 10 0;order 2 0 11 7;order 2 0 10 9;order 3 0 1 1;order 40 0 1 3;", "10",
            "sow 0 0;year;");
        due("as many as there are, for nothing", x.order(0, 4) * 100 + x.told(4) * 10 + x.sound(0, 3), 100);
        due("not yet", x.order(1, 4) * 100 + x.order(3, 4) * 10 + x.order(4, 4), 0);
        due("ahead", x.ahead(1) * 10 + x.ahead(2), 91);
        Check.work(x, "year;");
        due("one more than there are, then as many", x.order(1, 4) * 10 + x.order(2, 4), 21);
        due("pence, bales", x.told(4) * 100 + x.sound(0, 3) * 10 + x.order(3, 4), 900);
        Check.work(x, "clear 0;year;");
        due("none there", x.order(3, 4) * 10 + x.told(4), 29);
        Check.work(x, "sow 0 0;again 16[year;];again 20[year;];");
        due("year 40", x.told(3) * 10 + x.order(4, 4), 400);
        Check.work(x, "year;");
        due("year 40 over", x.told(3) * 100 + x.order(4, 4) * 10 + x.told(4), 4122);
        due("delivered", x.sums(4) * 100 + x.sums(5) * 10 + x.sums(6), 2132);
        due("those that failed are not ahead", x.ahead(2) * 10 + x.ahead(1), 0);
        // as many as can be, all of the last of six sounds
        NoiseFields six = lawful("field 5;" + times(6, "sound 1 1 1;") + times(9, "order 1 5 1 2;") + "order 1 5 2 2;", "10", "sow 0 5;year;");
        for (int order = 0; order < 10; order++) {
            due("order " + order, six.order(order, 4), order < 9 ? 1 : 2);
        }
        due("delivered", six.sound(5, 8) * 100 + six.told(4), 918);
        // LOST ones are not there; ORDERS come ahead of what is spoilt
        NoiseFields y = lawful("field 5;sound 1 1 1;order 1 0 9 5;order 1 0 8 6;barn 8;spoil 8;", "10", "sow 0 0;year;");
        due("9 of 8, 8 of 8", y.order(0, 4) * 10 + y.order(1, 4), 21);
        due("pence, lost, spoilt", y.told(4) * 100 + y.sound(0, 7) * 10 + y.sound(0, 6), 620);
        // of another SOUND there may be enough
        NoiseFields z = lawful("field 5;sound 1 1 1;sound 1 1 1;order 1 1 1 5;", "10", "sow 0 0;year;");
        due("of another sound", z.order(0, 4) * 100 + z.told(5), 210);
    }

    /** Six of all, so that no count takes what is another one's. */
    private static void six() {
        NoiseFields x = lawful(times(6, "field 5;") + times(6, "sound 1 1 1;") + "order 1 5 1 9;order 1 5 99 9;order 1 0 2 9;barn 60;spoil 1;",
            "8 + field * 2", "sow 0 0;sow 1 1;sow 2 2;sow 3 3;sow 4 4;sow 5 5;year;sell 5 1;sell 0 2;");
        // 8, 10, 12, 14, 16, 18 are 78: the barn holds 60 of them, none of the last; so both ORDERS of it fail
        int[] bales = {4, 9, 11, 13, 14, 0};
        int[] sold = {2, 0, 0, 0, 0, 0};
        int[] spoilt = {0, 1, 1, 1, 2, 0};
        int[] lost = {0, 0, 0, 0, 0, 18};
        int[] delivered = {2, 0, 0, 0, 0, 0};
        for (int i = 0; i < 6; i++) {
            int[] due = {bales[i], 8 + 2 * i, sold[i], spoilt[i], lost[i], delivered[i]};
            for (int what = 3; what <= 8; what++) {
                due("sound " + i + ", " + what, x.sound(i, what), due[what - 3]);
            }
        }
        int[] sums = {78, 2, 5, 18, 2, 1, 2};
        for (int what = 0; what <= 6; what++) {
            due("sums " + what, x.sums(what), sums[what]);
        }
        due("bales, pence, refused", x.told(5) * 1000 + x.told(4) * 10 + x.told(7), 51111);
        due("ahead", x.ahead(3) * 10 + x.ahead(2), 10 * (51 + 78 - 60));
        NoiseFields y = lawful("field 5;" + times(6, "sound 1 1 1;") + "order 1 5 1 9;order 2 5 1 9;", "1", "sow 0 5;year;");
        due("one delivered", y.sums(4) * 100 + y.sums(5) * 10 + y.sums(6), 110);
        Check.work(y, "year;");
        due("two delivered", y.sums(4) * 100 + y.sums(5) * 10 + y.sums(6), 220);
    }

    private static void spoilt(int q, int bales, int want) {
        NoiseFields x = lawful("field 5;sound 1 1 1;barn 99;spoil " + q + ";", Integer.toString(bales), "sow 0 0;year;");
        due("spoilt of " + bales + " by " + q, x.sound(0, 6), want);
        due("left of " + bales + " by " + q, x.sound(0, 3), bales - want);
        due("kept of " + bales + " by " + q, x.keeps(0, 1), bales - want - (bales - want) * q / 8);
    }

    private static void spoil() {
        spoilt(0, 99, 0);
        spoilt(1, 7, 0);
        spoilt(1, 8, 1);
        spoilt(1, 15, 1);
        spoilt(1, 16, 2);
        spoilt(7, 1, 0);
        spoilt(7, 2, 1);
        spoilt(8, 1, 1);
        spoilt(8, 99, 99);
        spoilt(8, 0, 0);
        // of each SOUND: 7 and 7 are 14, of which one would be spoilt
        NoiseFields x = lawful("field 5;field 5;sound 1 1 1;sound 1 1 1;spoil 1;", "7", "sow 0 0;sow 1 1;year;");
        due("none", x.told(5) * 10 + x.sums(2), 140);
        // of all bales in the barn, not of the new ones only
        Check.work(x, "clear 1;year;");
        due("14 and 7", x.sound(0, 6) * 10 + x.sound(1, 6), 10);
    }

    private static void loudness() {
        int[] by = {60, 30, 20, 15, 12, 10};
        for (int loud = 1; loud <= 9; loud += 4) {
            for (int sown = 0; sown < 6; sown++) {
                NoiseFields x = lawful(times(6, "field 5;") + "sound 1 " + loud + " 1;", "1", "sow " + sown + " 0;");
                for (int field = 0; field < 6; field++) {
                    due("loudness of " + sown + " at " + field, x.loud(field), loud * by[Math.abs(sown - field)]);
                    due("near " + field, x.field(field, 4), Math.abs(sown - field) == 1 ? loud : 0);
                }
            }
        }
        due("one field", lawful("field 5;sound 1 9 1;", "1", "sow 0 0;").loud(0), 540);
        due("nothing sown", Check.farmed("field 5;sound 1 9 1;").loud(0), 0);
    }

    /** Of own loudness 1 to 4 with next ones that are two times as loud together, and one more. */
    private static void drowned() {
        for (int own = 1; own <= 4; own++) {
            String farm = times(3, "field 5;") + "sound 1 " + own + " 1;sound 1 " + own + " 1;sound 1 " + (own + 1) + " 1;sound 1 "
                + 2 * own + " 1;sound 1 " + (2 * own + 1) + " 1;";
            due("as loud twice", lawful(farm, "1", "sow 0 1;sow 1 0;sow 2 1;").drowned(), 0);
            due("one more", lawful(farm, "1", "sow 0 1;sow 1 0;sow 2 2;").drowned(), 2);
            due("two times by one", lawful(farm, "1", "sow 0 0;sow 1 3;").drowned(), 0);
            due("one more by one", lawful(farm, "1", "sow 0 0;sow 1 4;").drowned(), 1);
            due("at the other end", lawful(farm, "1", "sow 2 0;sow 1 4;").drowned(), 4);
            due("not next to it", lawful(farm, "1", "sow 0 0;sow 2 4;").drowned(), 0);
            due("nothing is not drowned", lawful(farm, "1", "sow 0 4;sow 2 4;").drowned(), 0);
        }
        String six = times(6, "field 5;") + "sound 1 1 1;sound 1 9 1;";
        due("all but the loud ones", lawful(six, "1", "sow 0 0;sow 1 1;sow 2 0;sow 3 0;sow 4 1;sow 5 0;").drowned(), 0b101101);
        due("no fields", Check.farmed("sound 1 1 1;").drowned(), 0);
    }

    public static void main(String[] args) {
        first();
        steps();
        limit();
        soil();
        rest();
        yields();
        barns();
        orders();
        six();
        spoil();
        loudness();
        drowned();
        Check.end("YearLimits");
    }
}
