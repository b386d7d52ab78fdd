import java.util.Arrays;
import java.util.NoSuchElementException;

/** A harvest of noises; README.md says how to use it, the document what each call promises. */
public final class NoiseFields {
    public static final int NONE = -1;

    private static final int MOST_FIELDS = 6;
    private static final int MOST_SOUNDS = 6;
    private static final int MOST_ORDERS = 10;
    private static final int MOST_CLAUSES = 60;
    private static final int MOST_HAILS = 6;
    private static final int MOST_LINES = 6;
    private static final int MOST_OPEN = 6;
    private static final int MOST_STEPS = 200;
    private static final int MOST_WORKS = 20;
    private static final int MOST_IMAGES = 3;
    private static final int MOST_TURNS = 5;
    private static final int MOST_BLIGHT_YEARS = 20;
    private static final int MOST_SEEDS = 20;
    private static final int MOST_BALES = 99;
    private static final int MOST_REST = 9;
    private static final int MOST_SOIL = 9;
    private static final int MOST_LOUD = 9;
    private static final int MOST_NEAR = 18;
    private static final int LAST_EVENT_YEAR = 40;
    private static final int ROWS = 64;

    private static final int TAPE_BYTES = 600;
    private static final int LAW_BYTES = 150;
    private static final int WORK_BYTES = 200;
    private static final int BOOK_BYTES = 100;

    private static final int MISPLACED = 1;
    private static final int NO_SUCH_NUMBER = 2;
    private static final int TOO_MANY = 3;

    private static final int ORDER_OPEN = 0;
    private static final int ORDER_DELIVERED = 1;
    private static final int ORDER_FAILED = 2;

    // Where each part of a world's values begins: one flat row, so that keeping a state is one copy.
    private static final int AT_SOIL = 0;
    private static final int AT_REST = 6;
    private static final int AT_SOWN = 12;
    private static final int AT_LAST = 18;
    private static final int AT_BALES = 24;
    private static final int AT_GROWN = 30;
    private static final int AT_SOLD = 36;
    private static final int AT_SPOILT = 42;
    private static final int AT_LOST = 48;
    private static final int AT_DELIVERED = 54;
    private static final int AT_ORDER = 60;
    private static final int AT_YEAR = 70;
    private static final int AT_PENCE = 71;
    private static final int VALUES = 72;

    private final Tape tape = new Tape();
    private final Law laws = new Law();
    private final World world = new World(laws);
    private final World trial = new World(laws);
    private final Work works = new Work(world);
    private final Plans plans = new Plans(world, laws);
    private final Breeding breeding = new Breeding();
    private final Book books = new Book();
    private final Hearing hearing = new Hearing(books);
    private final Blights blights = new Blights(trial);
    private Kept undoable;
    private Kept latestImage;
    private int refusedSteps;
    private int missingCalls;
    private int wrongCalls;

    public NoiseFields() {
        beginFarm(new Farm());
    }

    private void beginFarm(Farm told) {
        world.begin(told);
        trial.begin(told);
        laws.beUsual();
        breeding.begin(told);
        books.lines = 0;
        hearing.begin(told);
        undoable = null;
        latestImage = null;
        refusedSteps = 0;
    }

    public int feed(int a, int b, int c, int d, int e) {
        if (tape.size + 20 > TAPE_BYTES) {
            return NONE;
        }
        tape.put(a);
        tape.put(b);
        tape.put(c);
        tape.put(d);
        tape.put(e);
        return tape.size;
    }

    public int farm(int n) throws IllegalArgumentException {
        needLength(n, TAPE_BYTES);
        tape.open(n);
        Farm told = new Farm();
        told.readClauses(tape);
        if (tape.failed()) {
            return tape.kind - 10;
        }
        beginFarm(told);
        return told.fields;
    }

    public int law(int n) throws IllegalArgumentException {
        needLength(n, LAW_BYTES);
        tape.open(n);
        laws.readText(tape);
        return tape.failed() ? tape.kind - 10 : 1;
    }

    public int work(int n) throws IllegalArgumentException {
        needLength(n, WORK_BYTES);
        if (worksKept() >= MOST_WORKS) {
            tape.open(0);
            return -20;
        }
        tape.open(n);
        works.readText(tape);
        if (tape.failed()) {
            return tape.kind - 10;
        }
        undoable = new Kept(world.now.clone(), undoable, null, null);
        works.runSteps(0, works.told, 0);
        refusedSteps = works.refused;
        return works.done;
    }

    public int book(int n) throws IllegalArgumentException {
        needLength(n, BOOK_BYTES);
        tape.open(n);
        books.readText(tape, world.farm.fields);
        if (tape.failed()) {
            return tape.kind - 10;
        }
        hearing.begin(world.farm);
        return books.lines;
    }

    public int fault() {
        return tape.place;
    }

    public int undo() {
        if (undoable == null) {
            return -1;
        }
        world.take(undoable.values);
        undoable = undoable.before;
        refusedSteps = 0;
        return worksKept();
    }

    public int told(int what) throws IllegalArgumentException {
        needBetween(what, 0, 8);
        switch (what) {
            case 0:
                return world.farm.fields;
            case 1:
                return world.farm.sounds;
            case 2:
                return world.farm.orders;
            case 3:
                return world.now[AT_YEAR];
            case 4:
                return world.now[AT_PENCE];
            case 5:
                return world.sumOf(AT_BALES);
            case 6:
                return books.lines;
            case 7:
                return refusedSteps;
            default:
                return world.farm.barn;
        }
    }

    public int field(int field, int what) throws NoSuchElementException, IllegalArgumentException {
        needField(field);
        needBetween(what, 0, 4);
        switch (what) {
            case 0:
                return world.now[AT_SOIL + field];
            case 1:
                return world.now[AT_REST + field];
            case 2:
                return world.now[AT_SOWN + field];
            case 3:
                return world.now[AT_LAST + field];
            default:
                return world.nearOf(field);
        }
    }

    public int sound(int sound, int what) throws NoSuchElementException, IllegalArgumentException {
        needSound(sound);
        needBetween(what, 0, 8);
        switch (what) {
            case 0:
                return world.farm.row[sound];
            case 1:
                return world.farm.loudness[sound];
            case 2:
                return world.farm.price[sound];
            default:
                return world.now[AT_BALES + (what - 3) * MOST_SOUNDS + sound];
        }
    }

    public int order(int order, int what) throws NoSuchElementException, IllegalArgumentException {
        if (order < 0 || order >= world.farm.orders) {
            refuseMissing();
        }
        needBetween(what, 0, 4);
        switch (what) {
            case 0:
                return world.farm.orderYear[order];
            case 1:
                return world.farm.orderSound[order];
            case 2:
                return world.farm.orderBales[order];
            case 3:
                return world.farm.orderPence[order];
            default:
                return world.now[AT_ORDER + order];
        }
    }

    public int yields(int field, int sound) throws NoSuchElementException {
        needField(field);
        needSound(sound);
        return world.balesOf(field, sound, world.nearOf(field));
    }

    public int would(int soil, int rest, int same, int loud, int near, int hail) throws IllegalArgumentException {
        needBetween(soil, 0, MOST_SOIL);
        needBetween(rest, 0, MOST_REST);
        needBetween(same, 0, 1);
        needBetween(loud, 1, MOST_LOUD);
        needBetween(near, 0, MOST_NEAR);
        needBetween(hail, 0, 1);
        laws.inField(0, soil, rest);
        laws.inYear(0, hail);
        return laws.balesFor(loud, 0, near, same);
    }

    public int loud(int field) throws NoSuchElementException {
        needField(field);
        return world.loudnessAt(field);
    }

    public int drowned() {
        int bits = 0;
        for (int field = 0; field < world.farm.fields; field++) {
            int own = world.farm.loudOf(world.sownIn(field));
            if (own > 0 && world.nearOf(field) > 2 * own) {
                bits |= 1 << field;
            }
        }
        return bits;
    }

    public int ahead(int what) throws IllegalArgumentException {
        needBetween(what, 0, 3);
        trial.take(world.now);
        trial.endYear();
        switch (what) {
            case 0:
                return trial.sumOf(AT_GROWN) - world.sumOf(AT_GROWN);
            case 1:
                return trial.now[AT_PENCE] - world.now[AT_PENCE];
            case 2:
                return trial.ordersThat(ORDER_FAILED) - world.ordersThat(ORDER_FAILED);
            default:
                return trial.sumOf(AT_LOST) - world.sumOf(AT_LOST);
        }
    }

    public int best(int what) throws IllegalArgumentException {
        needBetween(what, 0, 1);
        plans.planSowing();
        return what == 0 ? plans.pence : plans.digits;
    }

    public int turnsOf(int field, int n, int what) throws NoSuchElementException, IllegalArgumentException {
        needField(field);
        needBetween(n, 1, MOST_TURNS);
        needBetween(what, 0, 1);
        plans.planTurns(field, n);
        return what == 0 ? plans.pence : plans.digits;
    }

    public int sets(int sounds, int what) throws IllegalArgumentException {
        needBetween(what, 0, 1);
        if (!plans.takeSounds(sounds)) {
            refuseWrong();
        }
        plans.findSets();
        return what == 0 ? plans.found : plans.first;
    }

    public int crossing(int a, int b) throws IllegalArgumentException {
        needBetween(a, 0, ROWS - 1);
        needBetween(b, 0, ROWS - 1);
        return world.farm.cross(a, b);
    }

    public int generation(int row) throws IllegalArgumentException {
        needBetween(row, 0, ROWS - 1);
        breeding.breed();
        return breeding.bornIn[row];
    }

    public long rows(int generation) throws IllegalArgumentException {
        needBetween(generation, 0, 64);
        breeding.breed();
        return breeding.rowsBehind(generation);
    }

    public int stable() {
        breeding.breed();
        return breeding.latest;
    }

    public int heard(int what) throws IllegalArgumentException {
        needBetween(what, 0, 1);
        hearing.listen();
        return what == 0 ? hearing.ways : hearing.first;
    }

    public int sure(int field) throws NoSuchElementException {
        needField(field);
        hearing.listen();
        return hearing.sureIn(field);
    }

    public int ear(int what) throws IllegalArgumentException {
        needBetween(what, 0, 1);
        hearing.findNext();
        return what == 0 ? hearing.nextField : hearing.nextWorst;
    }

    public int against(int field, int what) throws NoSuchElementException, IllegalArgumentException {
        needField(field);
        needBetween(what, 0, 1);
        plans.findRests(field);
        return what == 0 ? plans.found : plans.first;
    }

    public int keeps(int sound, int n) throws NoSuchElementException, IllegalArgumentException {
        needSound(sound);
        needBetween(n, 0, 40);
        int bales = world.now[AT_BALES + sound];
        for (int year = 0; year < n; year++) {
            bales -= world.farm.spoiltOf(bales);
        }
        return bales;
    }

    public int blight(int seed, int q, int years, int what) throws IllegalArgumentException {
        needBetween(q, 0, 16);
        needBetween(years, 1, MOST_BLIGHT_YEARS);
        needBetween(what, 0, 2);
        blights.foresee(world.now, years);
        blights.strike(seed, q, years);
        switch (what) {
            case 0:
                return blights.bales;
            case 1:
                return blights.pence;
            default:
                return blights.struck;
        }
    }

    public int span(int seed, int many, int q, int years, int what) throws IllegalArgumentException {
        needBetween(many, 1, MOST_SEEDS);
        needBetween(q, 0, 16);
        needBetween(years, 1, MOST_BLIGHT_YEARS);
        needBetween(what, 0, 2);
        blights.foresee(world.now, years);
        int fewest = 0;
        int most = 0;
        int all = 0;
        for (int i = 0; i < many; i++) {
            blights.strike(seed + i, q, years);
            fewest = i == 0 ? blights.bales : Math.min(fewest, blights.bales);
            most = Math.max(most, blights.bales);
            all += blights.bales;
        }
        return what == 0 ? fewest : what == 1 ? most : all;
    }

    public int sums(int what) throws IllegalArgumentException {
        needBetween(what, 0, 6);
        if (what == 5) {
            return world.ordersThat(ORDER_DELIVERED);
        }
        if (what == 6) {
            return world.ordersThat(ORDER_FAILED);
        }
        return world.sumOf(AT_GROWN + what * MOST_SOUNDS);
    }

    public int image() {
        if (imagesKept() >= MOST_IMAGES) {
            return -1;
        }
        byte[] taped = Arrays.copyOf(tape.bytes, tape.size);
        latestImage = new Kept(world.now.clone(), latestImage, undoable, taped);
        return imagesKept();
    }

    public int restore() {
        if (latestImage == null) {
            return -1;
        }
        world.take(latestImage.values);
        undoable = latestImage.undoable;
        tape.lay(latestImage.taped);
        latestImage = latestImage.before;
        refusedSteps = 0;
        return imagesKept();
    }

    public int status(int what) {
        return what == 0 ? missingCalls : what == 1 ? wrongCalls : NONE;
    }

    public int count(int what) {
        switch (what) {
            case 0:
                return imagesKept();
            case 1:
                return tape.size;
            case 2:
                return worksKept();
            default:
                return NONE;
        }
    }

    private int worksKept() {
        return undoable == null ? 0 : undoable.depth;
    }

    private int imagesKept() {
        return latestImage == null ? 0 : latestImage.depth;
    }

    private void needField(int field) {
        if (field < 0 || field >= world.farm.fields) {
            refuseMissing();
        }
    }

    private void needSound(int sound) {
        if (sound < 0 || sound >= world.farm.sounds) {
            refuseMissing();
        }
    }

    private void needBetween(int value, int least, int most) {
        if (value < least || value > most) {
            refuseWrong();
        }
    }

    private void needLength(int n, int most) {
        needBetween(n, 0, Math.min(most, tape.size));
    }

    private void refuseMissing() {
        missingCalls++;
        throw new NoSuchElementException("no such field, sound or order");
    }

    private void refuseWrong() {
        wrongCalls++;
        throw new IllegalArgumentException("an argument is outside what the document allows");
    }

    /** The bytes that were fed, and a cursor that reads a text from them and notes its first fault. */
    private static final class Tape {
        // Far above every number that a text may tell, far below where ten times it would wrap.
        private static final int TOO_MUCH = 1000000;

        final byte[] bytes = new byte[TAPE_BYTES];
        int size;
        int kind;
        int place = NONE;
        int at;
        int wordAt;
        int numberAt;
        private int wordSize;
        private int end;

        void put(int number) {
            for (int shift = 24; shift >= 0; shift -= 8) {
                if (size < TAPE_BYTES) {
                    bytes[size] = (byte) (number >>> shift);
                    size++;
                }
            }
        }

        void lay(byte[] taped) {
            size = 0;
            if (taped != null && taped.length <= TAPE_BYTES) {
                size = taped.length;
                System.arraycopy(taped, 0, bytes, 0, size);
            }
        }

        /** The bytes stay where they are while the text is read, though the tape is empty from here on. */
        void open(int n) {
            size = 0;
            at = 0;
            end = n;
            kind = 0;
            place = NONE;
        }

        boolean failed() {
            return kind != 0;
        }

        /** Texts are read from left to right, so the first fault that is found is the one that counts. */
        void fail(int why, int where) {
            if (kind == 0) {
                kind = why;
                place = where;
            }
        }

        private void skipBlanks() {
            while (at < end && bytes[at] == ' ') {
                at++;
            }
        }

        boolean more() {
            skipBlanks();
            return kind == 0 && at < end;
        }

        int sign() {
            skipBlanks();
            return at < end ? bytes[at] & 255 : NONE;
        }

        void pass(int sign) {
            skipBlanks();
            if (at < end && bytes[at] == sign) {
                at++;
            } else {
                fail(MISPLACED, at);
            }
        }

        static boolean isDigit(int sign) {
            return sign >= '0' && sign <= '9';
        }

        int number(int least, int most) {
            skipBlanks();
            numberAt = at;
            int value = 0;
            while (at < end && isDigit(bytes[at])) {
                value = Math.min(value * 10 + bytes[at] - '0', TOO_MUCH);
                at++;
            }
            if (at == numberAt) {
                fail(MISPLACED, at);
            } else if (value < least || value > most) {
                fail(NO_SUCH_NUMBER, numberAt);
            }
            return kind == 0 ? value : 0;
        }

        void readWord() {
            skipBlanks();
            wordAt = at;
            while (at < end && bytes[at] >= 'a' && bytes[at] <= 'z') {
                at++;
            }
            wordSize = at - wordAt;
        }

        boolean says(String word) {
            if (word.length() != wordSize) {
                return false;
            }
            for (int i = 0; i < wordSize; i++) {
                if (bytes[wordAt + i] != word.charAt(i)) {
                    return false;
                }
            }
            return true;
        }
    }

    /** What a FARM's text told; it never changes once it is read. */
    private static final class Farm {
        private static final int FIELD = 0;
        private static final int SOUND = 1;
        private static final int ORDER = 2;
        private static final int BARN = 3;
        private static final int SPOIL = 4;
        private static final int HAIL = 5;
        private static final int CROSS = 6;

        int fields;
        int sounds;
        int orders;
        int barn = 20;
        private int spoilEighths;
        private int crossingKind;
        private int hails;
        private long hailYears;
        final int[] soil = new int[MOST_FIELDS];
        final int[] row = new int[MOST_SOUNDS];
        final int[] loudness = new int[MOST_SOUNDS];
        final int[] price = new int[MOST_SOUNDS];
        final int[] orderYear = new int[MOST_ORDERS];
        final int[] orderSound = new int[MOST_ORDERS];
        final int[] orderBales = new int[MOST_ORDERS];
        final int[] orderPence = new int[MOST_ORDERS];

        void readClauses(Tape text) {
            for (int clauses = 0; clauses <= MOST_CLAUSES && text.more(); clauses++) {
                text.readWord();
                int kind = kindOf(text);
                if (kind == NONE) {
                    text.fail(MISPLACED, text.wordAt);
                } else if (clauses == MOST_CLAUSES || isFull(kind)) {
                    text.fail(TOO_MANY, text.wordAt);
                } else {
                    readClause(text, kind);
                    text.pass(';');
                }
            }
        }

        private static int kindOf(Tape text) {
            return text.says("field") ? FIELD
                : text.says("sound") ? SOUND
                : text.says("order") ? ORDER
                : text.says("barn") ? BARN
                : text.says("spoil") ? SPOIL
                : text.says("hail") ? HAIL
                : text.says("cross") ? CROSS
                : NONE;
        }

        private boolean isFull(int kind) {
            return kind == FIELD && fields == MOST_FIELDS
                || kind == SOUND && sounds == MOST_SOUNDS
                || kind == ORDER && orders == MOST_ORDERS
                || kind == HAIL && hails == MOST_HAILS;
        }

        private void readClause(Tape text, int kind) {
            switch (kind) {
                case FIELD:
                    soil[fields] = text.number(0, MOST_SOIL);
                    fields++;
                    break;
                case SOUND:
                    row[sounds] = text.number(0, ROWS - 1);
                    loudness[sounds] = text.number(1, MOST_LOUD);
                    price[sounds] = text.number(0, 99);
                    sounds++;
                    break;
                case ORDER:
                    orderYear[orders] = text.number(1, LAST_EVENT_YEAR);
                    orderSound[orders] = text.number(0, sounds - 1);
                    orderBales[orders] = text.number(1, 99);
                    orderPence[orders] = text.number(0, 9999);
                    orders++;
                    break;
                case BARN:
                    barn = text.number(0, 99);
                    break;
                case SPOIL:
                    spoilEighths = text.number(0, 8);
                    break;
                case HAIL:
                    hailYears |= 1L << text.number(1, LAST_EVENT_YEAR);
                    hails++;
                    break;
                default:
                    crossingKind = text.number(0, 4);
                    break;
            }
        }

        int loudOf(int sound) {
            return sound < 0 || sound >= sounds ? 0 : loudness[sound];
        }

        int hailIn(int year) {
            return year >= 1 && year <= LAST_EVENT_YEAR ? (int) (hailYears >>> year & 1) : 0;
        }

        int spoiltOf(int bales) {
            return bales * spoilEighths / 8;
        }

        int cross(int a, int b) {
            switch (crossingKind) {
                case 0:
                    return a ^ b;
                case 1:
                    return a & b;
                case 2:
                    return a | b;
                case 3:
                    return a & 7 | b & 56;
                default:
                    return (a << 1 & 63 | a >> 5) ^ b;
            }
        }
    }

    /** How much a field yields: a text turned into a row of numbers, names and signs, each sign behind its two values. */
    private static final class Law {
        // Below NAMES stand the numbers themselves.
        private static final int NAMES = 1000;
        private static final int SOIL = 1000;
        private static final int REST = 1001;
        private static final int SAME = 1002;
        private static final int LOUD = 1003;
        private static final int PRICE = 1004;
        private static final int NEAR = 1005;
        private static final int YEAR = 1006;
        private static final int HAIL = 1007;
        private static final int FIELD = 1008;
        private static final int SIGNS = 2000;
        private static final int PLUS = 2000;
        private static final int MINUS = 2001;
        private static final int TIMES = 2002;
        private static final int BY = 2003;
        private static final int LEAST = 2004;
        private static final int MOST = 2005;
        private static final int[] USUAL = {SOIL, REST, PLUS, NEAR, 4, BY, MINUS};

        // No byte of a text gives more than one place in these rows.
        private final int[] code = new int[LAW_BYTES];
        private final int[] draft = new int[LAW_BYTES];
        private final int[] values = new int[LAW_BYTES];
        private final int[] given = new int[9];
        private int size;
        private int drafted;

        void beUsual() {
            size = USUAL.length;
            System.arraycopy(USUAL, 0, code, 0, size);
        }

        void readText(Tape text) {
            drafted = 0;
            readSum(text, 0);
            if (text.more()) {
                text.fail(MISPLACED, text.at);
            }
            if (!text.failed()) {
                size = drafted;
                System.arraycopy(draft, 0, code, 0, size);
            }
        }

        private void readSum(Tape text, int open) {
            readProduct(text, open);
            for (int i = 0; i < LAW_BYTES && text.more(); i++) {
                int sign = text.sign();
                if (sign != '+' && sign != '-') {
                    return;
                }
                text.pass(sign);
                readProduct(text, open);
                put(sign == '+' ? PLUS : MINUS);
            }
        }

        private void readProduct(Tape text, int open) {
            readUnit(text, open);
            for (int i = 0; i < LAW_BYTES && text.more(); i++) {
                int sign = text.sign();
                if (sign != '*' && sign != '/') {
                    return;
                }
                text.pass(sign);
                readUnit(text, open);
                put(sign == '*' ? TIMES : BY);
            }
        }

        private void readUnit(Tape text, int open) {
            if (text.failed()) {
                return;
            }
            int sign = text.sign();
            if (Tape.isDigit(sign)) {
                put(text.number(0, NAMES - 1));
            } else if (sign == '(') {
                readBrackets(text, open);
            } else {
                text.readWord();
                readNamed(text, open);
            }
        }

        private void readBrackets(Tape text, int open) {
            if (open >= MOST_OPEN) {
                text.fail(TOO_MANY, text.at);
                return;
            }
            text.pass('(');
            readSum(text, open + 1);
            text.pass(')');
        }

        private void readNamed(Tape text, int open) {
            boolean least = text.says("least");
            int name = nameOf(text);
            if (name != NONE) {
                put(name);
            } else if (!least && !text.says("most")) {
                text.fail(MISPLACED, text.wordAt);
            } else if (open >= MOST_OPEN) {
                text.fail(TOO_MANY, text.wordAt);
            } else {
                text.pass('[');
                readSum(text, open + 1);
                text.pass(',');
                readSum(text, open + 1);
                text.pass(']');
                put(least ? LEAST : MOST);
            }
        }

        private static int nameOf(Tape text) {
            return text.says("soil") ? SOIL
                : text.says("rest") ? REST
                : text.says("same") ? SAME
                : text.says("loud") ? LOUD
                : text.says("price") ? PRICE
                : text.says("near") ? NEAR
                : text.says("year") ? YEAR
                : text.says("hail") ? HAIL
                : text.says("field") ? FIELD
                : NONE;
        }

        private void put(int part) {
            if (drafted < LAW_BYTES) {
                draft[drafted] = part;
                drafted++;
            }
        }

        void inField(int field, int soil, int rest) {
            given[FIELD - NAMES] = field;
            given[SOIL - NAMES] = soil;
            given[REST - NAMES] = rest;
        }

        void inYear(int year, int hail) {
            given[YEAR - NAMES] = year;
            given[HAIL - NAMES] = hail;
        }

        int balesFor(int loud, int price, int near, int same) {
            given[LOUD - NAMES] = loud;
            given[PRICE - NAMES] = price;
            given[NEAR - NAMES] = near;
            given[SAME - NAMES] = same;
            int top = 0;
            for (int i = 0; i < size; i++) {
                int part = code[i];
                if (part < NAMES) {
                    values[top] = part;
                    top++;
                } else if (part < SIGNS) {
                    values[top] = given[part - NAMES];
                    top++;
                } else if (top >= 2) {
                    top--;
                    values[top - 1] = joined(part, values[top - 1], values[top]);
                }
            }
            return values[0] < 0 ? 0 : values[0] > MOST_BALES ? MOST_BALES : values[0];
        }

        private static int joined(int sign, int a, int b) {
            switch (sign) {
                case PLUS:
                    return a + b;
                case MINUS:
                    return a - b;
                case TIMES:
                    return a * b;
                case BY:
                    return b == 0 ? 0 : a / b;
                case LEAST:
                    return a < b ? a : b;
                default:
                    return a > b ? a : b;
            }
        }
    }

    /** A farm as it stands: its values, the steps that change them, the end of a year. */
    private static final class World {
        final int[] now = new int[VALUES];
        final int[] harvest = new int[MOST_FIELDS];
        Farm farm;
        private final Law laws;

        World(Law laws) {
            this.laws = laws;
        }

        void begin(Farm told) {
            farm = told;
            Arrays.fill(now, 0);
            System.arraycopy(told.soil, 0, now, AT_SOIL, MOST_FIELDS);
            for (int field = 0; field < MOST_FIELDS; field++) {
                now[AT_REST + field] = MOST_REST;
                now[AT_SOWN + field] = NONE;
                now[AT_LAST + field] = NONE;
            }
            now[AT_YEAR] = 1;
        }

        void take(int[] values) {
            System.arraycopy(values, 0, now, 0, VALUES);
        }

        int sumOf(int part) {
            int sum = 0;
            for (int sound = 0; sound < farm.sounds; sound++) {
                sum += now[part + sound];
            }
            return sum;
        }

        int ordersThat(int state) {
            int many = 0;
            for (int order = 0; order < farm.orders; order++) {
                if (now[AT_ORDER + order] == state) {
                    many++;
                }
            }
            return many;
        }

        int sownIn(int field) {
            return field < 0 || field >= farm.fields ? NONE : now[AT_SOWN + field];
        }

        int nearOf(int field) {
            return farm.loudOf(sownIn(field - 1)) + farm.loudOf(sownIn(field + 1));
        }

        int loudnessAt(int field) {
            int loudness = 0;
            for (int other = 0; other < farm.fields; other++) {
                loudness += farm.loudOf(sownIn(other)) * sixtiethsFrom(other, field);
            }
            return loudness;
        }

        static int sixtiethsFrom(int one, int other) {
            return 60 / (1 + Math.abs(one - other));
        }

        int balesOf(int field, int sound, int near) {
            int year = now[AT_YEAR];
            laws.inField(field, now[AT_SOIL + field], now[AT_REST + field]);
            laws.inYear(year, farm.hailIn(year));
            int same = now[AT_LAST + field] == sound ? 1 : 0;
            return laws.balesFor(farm.loudness[sound], farm.price[sound], near, same);
        }

        void sowIn(int field, int sound) {
            now[AT_SOWN + field] = sound;
        }

        boolean clearIn(int field) {
            if (now[AT_SOWN + field] == NONE) {
                return false;
            }
            now[AT_SOWN + field] = NONE;
            return true;
        }

        boolean sellOf(int sound, int bales) {
            if (now[AT_BALES + sound] < bales) {
                return false;
            }
            now[AT_BALES + sound] -= bales;
            now[AT_SOLD + sound] += bales;
            now[AT_PENCE] += bales * farm.price[sound];
            return true;
        }

        void endYear() {
            reap();
            ageFields();
            store();
            serveOrders();
            spoilBales();
            now[AT_YEAR]++;
        }

        void reap() {
            for (int field = 0; field < farm.fields; field++) {
                int sound = now[AT_SOWN + field];
                harvest[field] = sound == NONE ? 0 : balesOf(field, sound, nearOf(field));
            }
        }

        void ageFields() {
            for (int field = 0; field < farm.fields; field++) {
                int sound = now[AT_SOWN + field];
                if (sound == NONE) {
                    now[AT_SOIL + field] = Math.min(MOST_SOIL, now[AT_SOIL + field] + 1);
                    now[AT_REST + field] = Math.min(MOST_REST, now[AT_REST + field] + 1);
                } else {
                    now[AT_SOIL + field] = Math.max(0, now[AT_SOIL + field] - 1);
                    now[AT_REST + field] = 0;
                    now[AT_LAST + field] = sound;
                }
            }
        }

        private void store() {
            int room = farm.barn - sumOf(AT_BALES);
            for (int field = 0; field < farm.fields; field++) {
                int sound = now[AT_SOWN + field];
                if (sound != NONE) {
                    int held = Math.min(room, harvest[field]);
                    room -= held;
                    now[AT_GROWN + sound] += harvest[field];
                    now[AT_BALES + sound] += held;
                    now[AT_LOST + sound] += harvest[field] - held;
                }
            }
        }

        private void serveOrders() {
            for (int order = 0; order < farm.orders; order++) {
                if (farm.orderYear[order] == now[AT_YEAR]) {
                    now[AT_ORDER + order] = deliver(order) ? ORDER_DELIVERED : ORDER_FAILED;
                }
            }
        }

        private boolean deliver(int order) {
            int sound = farm.orderSound[order];
            int bales = farm.orderBales[order];
            if (now[AT_BALES + sound] < bales) {
                return false;
            }
            now[AT_BALES + sound] -= bales;
            now[AT_DELIVERED + sound] += bales;
            now[AT_PENCE] += farm.orderPence[order];
            return true;
        }

        private void spoilBales() {
            for (int sound = 0; sound < farm.sounds; sound++) {
                int spoilt = farm.spoiltOf(now[AT_BALES + sound]);
                now[AT_BALES + sound] -= spoilt;
                now[AT_SPOILT + sound] += spoilt;
            }
        }
    }

    /** A WORK's text as rows of steps, and what came of doing them. */
    private static final class Work {
        private static final int SOW = 0;
        private static final int CLEAR = 1;
        private static final int SELL = 2;
        private static final int YEAR = 3;
        private static final int AGAIN = 4;
        // The shortest step has more bytes than four.
        private static final int MOST_TOLD = WORK_BYTES / 4;

        int told;
        int done;
        int refused;
        private final World world;
        private final int[] step = new int[MOST_TOLD];
        private final int[] firstNumber = new int[MOST_TOLD];
        // Of an again: behind its last step.
        private final int[] secondNumber = new int[MOST_TOLD];
        private int begun;

        Work(World world) {
            this.world = world;
        }

        void readText(Tape text) {
            told = 0;
            begun = 0;
            done = 0;
            refused = 0;
            readSteps(text, 0);
            if (text.more()) {
                text.fail(MISPLACED, text.at);
            }
        }

        private void readSteps(Tape text, int open) {
            for (int i = 0; i < WORK_BYTES && text.more() && text.sign() != ']'; i++) {
                text.readWord();
                readStep(text, open);
                text.pass(';');
            }
        }

        private void readStep(Tape text, int open) {
            int lastField = world.farm.fields - 1;
            int lastSound = world.farm.sounds - 1;
            if (text.says("sow")) {
                put(SOW, text.number(0, lastField), text.number(0, lastSound));
            } else if (text.says("clear")) {
                put(CLEAR, text.number(0, lastField), 0);
            } else if (text.says("sell")) {
                put(SELL, text.number(0, lastSound), text.number(1, 99));
            } else if (text.says("year")) {
                put(YEAR, 0, 0);
            } else if (!text.says("again")) {
                text.fail(MISPLACED, text.wordAt);
            } else if (open >= MOST_OPEN) {
                text.fail(TOO_MANY, text.wordAt);
            } else {
                readAgain(text, open + 1);
            }
        }

        private void readAgain(Tape text, int open) {
            int here = told;
            put(AGAIN, text.number(0, 20), 0);
            text.pass('[');
            readSteps(text, open);
            text.pass(']');
            if (here < told) {
                secondNumber[here] = told;
            }
        }

        private void put(int what, int first, int second) {
            if (told < MOST_TOLD) {
                step[told] = what;
                firstNumber[told] = first;
                secondNumber[told] = second;
                told++;
            }
        }

        void runSteps(int from, int to, int depth) {
            int at = from;
            while (at < to && begun < MOST_STEPS) {
                begun++;
                if (step[at] == AGAIN) {
                    runAgain(at, depth + 1);
                    at = Math.max(at + 1, secondNumber[at]);
                } else {
                    runStep(at);
                    at++;
                }
            }
        }

        private void runAgain(int at, int depth) {
            if (depth > MOST_OPEN) {
                return;
            }
            for (int turn = 0; turn < firstNumber[at] && begun < MOST_STEPS; turn++) {
                runSteps(at + 1, secondNumber[at], depth);
            }
        }

        private void runStep(int at) {
            boolean could = true;
            switch (step[at]) {
                case SOW:
                    world.sowIn(firstNumber[at], secondNumber[at]);
                    break;
                case CLEAR:
                    could = world.clearIn(firstNumber[at]);
                    break;
                case SELL:
                    could = world.sellOf(firstNumber[at], secondNumber[at]);
                    break;
                default:
                    world.endYear();
                    break;
            }
            done += could ? 1 : 0;
            refused += could ? 0 : 1;
        }
    }

    /**
     * A state that is kept, and the one that was kept before it: of a WORK what it can be undone to, or an IMAGE.
     * An IMAGE shares the chain of what could be undone; farm() drops all, so the FARM is always the same one.
     */
    private static final class Kept {
        final int[] values;
        final Kept before;
        final int depth;
        final Kept undoable;
        final byte[] taped;

        Kept(int[] values, Kept before, Kept undoable, byte[] taped) {
            this.values = values;
            this.before = before;
            this.depth = before == null ? 1 : before.depth + 1;
            this.undoable = undoable;
            this.taped = taped;
        }
    }

    /** Best sowings, turns, sets and rests. A CHOICE is 0 for nothing, else a sound and 1. */
    private static final class Plans {
        private static final int CHOICES = MOST_SOUNDS + 1;
        private static final int NEARS = MOST_NEAR + 1;
        private static final int SOILS = MOST_SOIL + 1;
        private static final int RESTS = MOST_REST + 1;

        int pence;
        int digits;
        int found;
        int first;
        private final World world;
        private final Law laws;
        private final int[] gains = new int[MOST_FIELDS * CHOICES * NEARS];
        private final int[] most = new int[MOST_FIELDS * CHOICES * CHOICES];
        private final int[] turnMost = new int[MOST_TURNS * SOILS * CHOICES * RESTS];
        private final int[] left = new int[CHOICES];
        private final int[] chosen = new int[MOST_FIELDS];
        private final int[] pay = new int[MOST_SOUNDS];
        private int turnField;
        private int turnYears;
        private int turnNear;

        Plans(World world, Law laws) {
            this.world = world;
            this.laws = laws;
        }

        private int loudOfChoice(int choice) {
            return world.farm.loudOf(choice - 1);
        }

        /** Only next fields touch each other, so what is most from a field on hangs on it and the one ahead of it alone. */
        void planSowing() {
            pence = 0;
            digits = 0;
            int fields = world.farm.fields;
            if (fields == 0) {
                return;
            }
            findGains();
            for (int field = fields - 1; field > 0; field--) {
                for (int before = 0; before <= world.farm.sounds; before++) {
                    weighField(field, before);
                }
            }
            weighField(0, 0);
            spellSowing();
        }

        private static int gainPlaceOf(int field, int choice, int near) {
            return (field * CHOICES + choice) * NEARS + near;
        }

        /** The law is asked once for each nearness that two neighbours can make, however many make it. */
        private void findGains() {
            Arrays.fill(gains, NONE);
            for (int before = 0; before <= world.farm.sounds; before++) {
                for (int next = before; next <= world.farm.sounds; next++) {
                    findGainsBy(loudOfChoice(before) + loudOfChoice(next));
                }
            }
        }

        private void findGainsBy(int near) {
            for (int field = 0; field < world.farm.fields; field++) {
                for (int sound = 0; sound < world.farm.sounds; sound++) {
                    int place = gainPlaceOf(field, sound + 1, near);
                    if (gains[place] == NONE) {
                        gains[place] = world.balesOf(field, sound, near) * world.farm.price[sound];
                    }
                }
            }
        }

        private void weighField(int field, int before) {
            for (int here = 0; here <= world.farm.sounds; here++) {
                int next = bestNext(field, before, here);
                most[placeOf(field, before, here)] = penceWith(field, before, here, next);
            }
        }

        private static int placeOf(int field, int before, int here) {
            return (field * CHOICES + before) * CHOICES + here;
        }

        private int bestNext(int field, int before, int here) {
            if (field == world.farm.fields - 1) {
                return 0;
            }
            int best = 0;
            int bestPence = penceWith(field, before, here, 0);
            for (int next = 1; next <= world.farm.sounds; next++) {
                int such = penceWith(field, before, here, next);
                if (such > bestPence) {
                    best = next;
                    bestPence = such;
                }
            }
            return best;
        }

        private int penceWith(int field, int before, int here, int next) {
            int near = loudOfChoice(before) + loudOfChoice(next);
            int own = here == 0 ? 0 : gains[gainPlaceOf(field, here, near)];
            return field == world.farm.fields - 1 ? own : own + most[placeOf(field + 1, here, next)];
        }

        private void spellSowing() {
            int here = 0;
            for (int choice = 1; choice <= world.farm.sounds; choice++) {
                if (most[placeOf(0, 0, choice)] > most[placeOf(0, 0, here)]) {
                    here = choice;
                }
            }
            pence = most[placeOf(0, 0, here)];
            int before = 0;
            for (int field = 0; field < world.farm.fields; field++) {
                digits = digits * 10 + here;
                int next = bestNext(field, before, here);
                before = here;
                here = next;
            }
        }

        void planTurns(int field, int years) {
            turnField = field;
            turnYears = years;
            turnNear = world.nearOf(field);
            Arrays.fill(turnMost, NONE);
            int soil = world.now[AT_SOIL + field];
            int rest = world.now[AT_REST + field];
            int last = world.now[AT_LAST + field];
            pence = mostFrom(0, soil, rest, last);
            digits = 0;
            for (int turn = 0; turn < years; turn++) {
                int choice = bestChoice(turn, soil, rest, last);
                digits = digits * 10 + choice;
                soil = soilBehind(soil, choice);
                rest = restBehind(rest, choice);
                last = choice == 0 ? last : choice - 1;
            }
        }

        private static int soilBehind(int soil, int choice) {
            return choice == 0 ? Math.min(MOST_SOIL, soil + 1) : Math.max(0, soil - 1);
        }

        private static int restBehind(int rest, int choice) {
            return choice == 0 ? Math.min(MOST_REST, rest + 1) : 0;
        }

        private int mostFrom(int turn, int soil, int rest, int last) {
            if (turn >= turnYears || turn >= MOST_TURNS) {
                return 0;
            }
            int place = ((turn * SOILS + soil) * RESTS + rest) * CHOICES + last + 1;
            if (turnMost[place] == NONE) {
                int choice = bestChoice(turn, soil, rest, last);
                turnMost[place] = penceBy(choice, turn, soil, rest, last);
            }
            return turnMost[place];
        }

        private int bestChoice(int turn, int soil, int rest, int last) {
            int best = 0;
            int bestPence = penceBy(0, turn, soil, rest, last);
            for (int choice = 1; choice <= world.farm.sounds; choice++) {
                int such = penceBy(choice, turn, soil, rest, last);
                if (such > bestPence) {
                    best = choice;
                    bestPence = such;
                }
            }
            return best;
        }

        private int penceBy(int choice, int turn, int soil, int rest, int last) {
            int own = choice == 0 ? 0 : turnPence(choice - 1, turn, soil, rest, last);
            int lastBehind = choice == 0 ? last : choice - 1;
            return own + mostFrom(turn + 1, soilBehind(soil, choice), restBehind(rest, choice), lastBehind);
        }

        private int turnPence(int sound, int turn, int soil, int rest, int last) {
            Farm farm = world.farm;
            int year = world.now[AT_YEAR] + turn;
            laws.inField(turnField, soil, rest);
            laws.inYear(year, farm.hailIn(year));
            int same = last == sound ? 1 : 0;
            return laws.balesFor(farm.loudness[sound], farm.price[sound], turnNear, same) * farm.price[sound];
        }

        /** Whether the digits name sounds, no more of them than there are fields. */
        boolean takeSounds(int told) {
            Arrays.fill(left, 0);
            if (told < 0) {
                return false;
            }
            int many = 0;
            for (int rest = told; rest > 0; rest /= 10) {
                int choice = rest % 10;
                if (choice == 0 || choice > world.farm.sounds) {
                    return false;
                }
                left[choice]++;
                many++;
            }
            left[0] = world.farm.fields - many;
            return left[0] >= 0;
        }

        void findSets() {
            found = 0;
            first = NONE;
            setFrom(0, 0);
        }

        private void setFrom(int field, int spelt) {
            if (field >= world.farm.fields) {
                if (!isDrownedBy(field - 1, 0)) {
                    first = found == 0 ? spelt : first;
                    found++;
                }
                return;
            }
            for (int choice = 0; choice <= world.farm.sounds; choice++) {
                if (left[choice] > 0) {
                    left[choice]--;
                    chosen[field] = choice;
                    if (!isDrownedBy(field - 1, choice)) {
                        setFrom(field + 1, spelt * 10 + choice);
                    }
                    left[choice]++;
                }
            }
        }

        private boolean isDrownedBy(int field, int next) {
            if (field < 0 || chosen[field] == 0) {
                return false;
            }
            int before = field == 0 ? 0 : chosen[field - 1];
            return loudOfChoice(before) + loudOfChoice(next) > 2 * loudOfChoice(chosen[field]);
        }

        void findRests(int field) {
            found = 0;
            first = NONE;
            int year = world.now[AT_YEAR];
            Farm farm = world.farm;
            laws.inField(field, world.now[AT_SOIL + field], 0);
            laws.inYear(year, farm.hailIn(year));
            for (int sound = 0; sound < farm.sounds; sound++) {
                pay[sound] = laws.balesFor(farm.loudness[sound], farm.price[sound], 0, 0) * farm.price[sound];
            }
            for (int one = 0; one < farm.sounds; one++) {
                for (int other = 0; other < farm.sounds; other++) {
                    if (isBestReply(one, other) && isBestReply(other, one)) {
                        first = found == 0 ? 10 * one + other : first;
                        found++;
                    }
                }
            }
        }

        private boolean isBestReply(int own, int other) {
            for (int sound = 0; sound < world.farm.sounds; sound++) {
                if (payFor(sound, other) > payFor(own, other)) {
                    return false;
                }
            }
            return true;
        }

        private int payFor(int own, int other) {
            return own == other ? pay[own] / 2 : pay[own];
        }
    }

    /** Which rows come from crossing, and when; bred once for each FARM. */
    private static final class Breeding {
        final int[] bornIn = new int[ROWS];
        int latest;
        private final int[] there = new int[ROWS];
        private int many;
        private Farm farm;
        private boolean bred;

        void begin(Farm told) {
            farm = told;
            bred = false;
        }

        void breed() {
            if (bred) {
                return;
            }
            bred = true;
            Arrays.fill(bornIn, NONE);
            many = 0;
            latest = 0;
            for (int sound = 0; sound < farm.sounds; sound++) {
                add(farm.row[sound], 0);
            }
            int from = 0;
            for (int generation = 1; generation <= ROWS && from < many; generation++) {
                int to = many;
                crossAll(from, to, generation);
                latest = many > to ? generation : latest;
                from = to;
            }
        }

        /** Pairs of which both were there a generation ago have been crossed already. */
        private void crossAll(int from, int to, int generation) {
            for (int i = 0; i < to; i++) {
                for (int j = i < from ? from : 0; j < to; j++) {
                    add(farm.cross(there[i], there[j]), generation);
                }
            }
        }

        private void add(int row, int generation) {
            if (bornIn[row] == NONE && many < ROWS) {
                bornIn[row] = generation;
                there[many] = row;
                many++;
            }
        }

        long rowsBehind(int generation) {
            long bits = 0;
            for (int i = 0; i < many; i++) {
                if (bornIn[there[i]] <= generation) {
                    bits |= 1L << there[i];
                }
            }
            return bits;
        }
    }

    /** What was heard where. */
    private static final class Book {
        int lines;
        final int[] lineField = new int[MOST_LINES];
        final int[] lineLoud = new int[MOST_LINES];
        private int drafted;
        private final int[] draftField = new int[MOST_LINES];
        private final int[] draftLoud = new int[MOST_LINES];

        void readText(Tape text, int fields) {
            drafted = 0;
            for (int i = 0; i <= MOST_LINES && text.more(); i++) {
                readLine(text, fields);
            }
            if (!text.failed()) {
                lines = drafted;
                System.arraycopy(draftField, 0, lineField, 0, lines);
                System.arraycopy(draftLoud, 0, lineLoud, 0, lines);
            }
        }

        private void readLine(Tape text, int fields) {
            int field = text.number(0, fields - 1);
            if (isTold(field)) {
                text.fail(NO_SUCH_NUMBER, text.numberAt);
            }
            if (drafted >= MOST_LINES) {
                text.fail(TOO_MANY, text.numberAt);
                return;
            }
            draftField[drafted] = field;
            draftLoud[drafted] = text.number(0, 9999);
            drafted++;
            text.pass(';');
        }

        private boolean isTold(int field) {
            for (int line = 0; line < drafted; line++) {
                if (draftField[line] == field) {
                    return true;
                }
            }
            return false;
        }
    }

    /**
     * The ways to sow that a BOOK leaves, found once for each FARM and BOOK.
     * Sounds of one loudness can't be told apart by ear, so a KIND stands for all of them (kind 0: nothing);
     * rows of kinds are put together from two halves of the fields, so that few that don't fit are looked at.
     */
    private static final class Hearing {
        private static final int KINDS = MOST_SOUNDS + 1;
        private static final int HALF = 343;
        // Above the loudest that it can be in six fields: 9 times 60 + 30 + 30 + 20 + 20 + 15 is 1,575.
        private static final int LOUDS = 1600;

        int ways;
        int first;
        int nextField;
        int nextWorst;
        private final Book books;
        private Farm farm;
        private boolean listened;
        private boolean nextFound;
        private int kinds;
        private final int[] kindSound = new int[KINDS];
        private final int[] kindSize = new int[KINDS];
        private final int[] seen = new int[MOST_FIELDS];
        private int split;
        // Of each half row: how loud it is at each field, and how many rows of sounds are like it.
        private final int[] louds = new int[2 * HALF * MOST_FIELDS];
        private final int[] weights = new int[2 * HALF];
        // Half rows of the fields behind, by how loud they are where the first line was heard.
        private final int[] chainHead = new int[LOUDS];
        private final int[] chainNext = new int[2 * HALF];
        private final int[] tally = new int[LOUDS];

        Hearing(Book books) {
            this.books = books;
        }

        void begin(Farm told) {
            farm = told;
            listened = false;
            nextFound = false;
        }

        void listen() {
            if (listened) {
                return;
            }
            listened = true;
            findKinds();
            if (books.lines == 0) {
                hearAll();
                return;
            }
            ways = 0;
            first = NONE;
            Arrays.fill(seen, 0);
            split = farm.fields / 2;
            fillHalf(0, 0, split);
            fillHalf(HALF, split, farm.fields);
            chainBehind();
            joinHalves(NONE);
        }

        private void findKinds() {
            kinds = 1;
            kindSound[0] = NONE;
            kindSize[0] = 1;
            for (int sound = 0; sound < farm.sounds; sound++) {
                int kind = 1;
                while (kind < kinds && farm.loudOf(kindSound[kind]) != farm.loudness[sound]) {
                    kind++;
                }
                if (kind == kinds) {
                    kindSound[kind] = sound;
                    kindSize[kind] = 0;
                    kinds++;
                }
                kindSize[kind]++;
            }
        }

        private void hearAll() {
            ways = 1;
            first = 0;
            for (int field = 0; field < farm.fields; field++) {
                ways *= farm.sounds + 1;
                seen[field] = (1 << kinds) - 1;
            }
        }

        private int rowsOver(int fields) {
            int many = 1;
            for (int i = 0; i < fields; i++) {
                many *= kinds;
            }
            return many;
        }

        private void fillHalf(int base, int from, int to) {
            int many = rowsOver(to - from);
            for (int i = 0; i < many; i++) {
                int row = base + i;
                weights[row] = 1;
                for (int field = 0; field < MOST_FIELDS; field++) {
                    louds[row * MOST_FIELDS + field] = 0;
                }
                int rest = i;
                for (int field = to - 1; field >= from; field--) {
                    sowKind(row, field, rest % kinds);
                    rest /= kinds;
                }
            }
        }

        private void sowKind(int row, int sown, int kind) {
            int loudness = farm.loudOf(kindSound[kind]);
            weights[row] *= kindSize[kind];
            for (int field = 0; loudness > 0 && field < farm.fields; field++) {
                louds[row * MOST_FIELDS + field] += loudness * World.sixtiethsFrom(sown, field);
            }
        }

        /** From the last row to the first, so that each chain goes from the first to the last. */
        private void chainBehind() {
            Arrays.fill(chainHead, NONE);
            int field = books.lineField[0];
            for (int row = HALF + rowsOver(farm.fields - split) - 1; row >= HALF; row--) {
                int loudness = louds[row * MOST_FIELDS + field];
                chainNext[row] = chainHead[loudness];
                chainHead[loudness] = row;
            }
        }

        /** Notes each way for all that is heard or, with a field told, how loud it is there. */
        private void joinHalves(int ear) {
            int many = rowsOver(split);
            int field = books.lineField[0];
            for (int row = 0; row < many; row++) {
                int wanted = books.lineLoud[0] - louds[row * MOST_FIELDS + field];
                int fitting = wanted < 0 || wanted >= LOUDS ? NONE : chainHead[wanted];
                for (int i = 0; i < HALF && fitting != NONE; i++) {
                    if (agree(row, fitting)) {
                        noteWay(row, fitting, ear);
                    }
                    fitting = chainNext[fitting];
                }
            }
        }

        private int loudnessOf(int row, int fitting, int field) {
            return louds[row * MOST_FIELDS + field] + louds[fitting * MOST_FIELDS + field];
        }

        private boolean agree(int row, int fitting) {
            for (int line = 1; line < books.lines; line++) {
                if (loudnessOf(row, fitting, books.lineField[line]) != books.lineLoud[line]) {
                    return false;
                }
            }
            return true;
        }

        private void noteWay(int row, int fitting, int ear) {
            int weight = weights[row] * weights[fitting];
            if (ear != NONE) {
                tally[loudnessOf(row, fitting, ear)] += weight;
                return;
            }
            int spelt = 0;
            int ahead = rowsOver(split);
            int behind = rowsOver(farm.fields - split);
            for (int field = 0; field < farm.fields; field++) {
                boolean inFirstHalf = field < split;
                ahead = inFirstHalf ? ahead / kinds : ahead;
                behind = inFirstHalf ? behind : behind / kinds;
                int kind = inFirstHalf ? row / ahead % kinds : (fitting - HALF) / behind % kinds;
                seen[field] |= 1 << kind;
                spelt = spelt * 10 + kindSound[kind] + 1;
            }
            first = ways == 0 ? spelt : first;
            ways += weight;
        }

        int sureIn(int field) {
            if (ways == 0) {
                return NONE;
            }
            if (Integer.bitCount(seen[field]) != 1) {
                return -3;
            }
            int kind = Integer.bitCount(seen[field] - 1);
            return kind == 0 ? -2 : kindSize[kind] == 1 ? kindSound[kind] : -3;
        }

        void findNext() {
            if (nextFound) {
                return;
            }
            nextFound = true;
            listen();
            nextField = NONE;
            nextWorst = NONE;
            for (int field = 0; field < farm.fields; field++) {
                int worst = worstAt(field);
                if (nextField == NONE || worst < nextWorst) {
                    nextField = field;
                    nextWorst = worst;
                }
            }
        }

        private int worstAt(int field) {
            Arrays.fill(tally, 0);
            if (books.lines == 0) {
                tallyAll(field);
            } else {
                joinHalves(field);
            }
            int worst = 0;
            for (int loudness = 0; loudness < LOUDS; loudness++) {
                worst = Math.max(worst, tally[loudness]);
            }
            return worst;
        }

        /** Without lines each field is sown freely: its kinds spread what the fields ahead of it have tallied. */
        private void tallyAll(int ear) {
            tally[0] = 1;
            int top = 0;
            for (int field = 0; field < farm.fields; field++) {
                int sixtieths = World.sixtiethsFrom(field, ear);
                for (int loudness = top; loudness >= 0; loudness--) {
                    if (tally[loudness] > 0) {
                        spread(loudness, sixtieths);
                    }
                }
                top += MOST_LOUD * sixtieths;
            }
        }

        private void spread(int from, int sixtieths) {
            for (int kind = 1; kind < kinds; kind++) {
                int to = from + farm.loudOf(kindSound[kind]) * sixtieths;
                if (to < LOUDS) {
                    tally[to] += tally[from] * kindSize[kind];
                }
            }
        }
    }

    /** Blights by seeds. What is sown stays sown, so yields are alike for all seeds and are foreseen once. */
    private static final class Blights {
        int bales;
        int pence;
        int struck;
        private final World trial;
        private final int[] foreseen = new int[MOST_BLIGHT_YEARS * MOST_FIELDS];

        Blights(World trial) {
            this.trial = trial;
        }

        void foresee(int[] now, int years) {
            trial.take(now);
            for (int year = 0; year < years; year++) {
                trial.reap();
                System.arraycopy(trial.harvest, 0, foreseen, year * MOST_FIELDS, MOST_FIELDS);
                trial.ageFields();
                trial.now[AT_YEAR]++;
            }
        }

        void strike(int firstSeed, int q, int years) {
            bales = 0;
            pence = 0;
            struck = 0;
            int seed = firstSeed;
            for (int year = 0; year < years; year++) {
                for (int field = 0; field < trial.farm.fields; field++) {
                    seed = seed * 1103515245 + 12345;
                    int drawn = (seed >>> 16 & 32767) % 16;
                    reapOrLose(drawn < q, trial.sownIn(field), foreseen[year * MOST_FIELDS + field]);
                }
            }
        }

        private void reapOrLose(boolean blighted, int sound, int grown) {
            if (sound == NONE) {
                return;
            }
            if (blighted) {
                struck++;
            } else {
                bales += grown;
                pence += grown * trial.farm.price[sound];
            }
        }
    }
}
