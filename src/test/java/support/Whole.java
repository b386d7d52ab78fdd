/** All that can be asked of an object, as one text, so that two states can be compared. */
final class Whole {
    private Whole() {
    }

    /** Asks only; the counts of refusals and the place of the FAULT are left out, since refused calls and texts change them. */
    static String of(NoiseFields x) {
        StringBuilder b = new StringBuilder();
        for (int what = 0; what <= 8; what++) {
            add(b, "told" + what, x.told(what));
        }
        for (int what = 0; what <= 2; what++) {
            add(b, "count" + what, x.count(what));
        }
        fields(b, x);
        sounds(b, x);
        for (int order = 0; order < x.told(2); order++) {
            for (int what = 0; what <= 4; what++) {
                add(b, "order" + order + "." + what, x.order(order, what));
            }
        }
        sums(b, x);
        plans(b, x);
        return b.toString();
    }

    private static void add(StringBuilder b, String name, long value) {
        b.append(name).append('=').append(value).append(' ');
    }

    private static void fields(StringBuilder b, NoiseFields x) {
        for (int field = 0; field < x.told(0); field++) {
            for (int what = 0; what <= 4; what++) {
                add(b, "field" + field + "." + what, x.field(field, what));
            }
            add(b, "loud" + field, x.loud(field));
            add(b, "sure" + field, x.sure(field));
            for (int sound = 0; sound < x.told(1); sound++) {
                add(b, "yields" + field + "." + sound, x.yields(field, sound));
            }
            for (int what = 0; what <= 1; what++) {
                add(b, "against" + field + "." + what, x.against(field, what));
                add(b, "turns" + field + "." + what, x.turnsOf(field, 3, what));
            }
        }
        add(b, "drowned", x.drowned());
    }

    private static void sounds(StringBuilder b, NoiseFields x) {
        for (int sound = 0; sound < x.told(1); sound++) {
            for (int what = 0; what <= 8; what++) {
                add(b, "sound" + sound + "." + what, x.sound(sound, what));
            }
            add(b, "keeps" + sound, x.keeps(sound, 1));
        }
    }

    private static void sums(StringBuilder b, NoiseFields x) {
        for (int what = 0; what <= 6; what++) {
            add(b, "sums" + what, x.sums(what));
        }
        for (int what = 0; what <= 3; what++) {
            add(b, "ahead" + what, x.ahead(what));
        }
    }

    private static void plans(StringBuilder b, NoiseFields x) {
        for (int what = 0; what <= 1; what++) {
            add(b, "best" + what, x.best(what));
            add(b, "sets" + what, x.sets(0, what));
            add(b, "heard" + what, x.heard(what));
            add(b, "ear" + what, x.ear(what));
        }
        for (int what = 0; what <= 2; what++) {
            add(b, "blight" + what, x.blight(1, 5, 4, what));
            add(b, "span" + what, x.span(1, 3, 9, 4, what));
        }
        add(b, "crossing", x.crossing(44, 26));
        add(b, "rows0", x.rows(0));
        add(b, "rows64", x.rows(64));
        add(b, "stable", x.stable());
        add(b, "would", x.would(7, 2, 1, 3, 8, 1) * 100 + x.would(5, 9, 0, 9, 0, 0));
    }

    /** Goes back through all that can be undone and restored too; nothing of it is left behind. */
    static String deepOf(NoiseFields x) {
        StringBuilder b = new StringBuilder(of(x));
        undoAll(b, x);
        for (int i = 0; i < 3 && x.restore() >= 0; i++) {
            b.append("| image ").append(of(x));
            undoAll(b, x);
        }
        return b.toString();
    }

    private static void undoAll(StringBuilder b, NoiseFields x) {
        for (int i = 0; i < 20 && x.undo() >= 0; i++) {
            b.append("| undone ").append(of(x));
        }
    }

    /** The TAPE's bytes, read as a FARM; the object is another one then. */
    static String tapeOf(NoiseFields x) {
        int bytes = x.count(1);
        int answer = x.farm(bytes);
        return bytes + " bytes, farm " + answer + ", fault " + x.fault() + " " + of(x);
    }
}
