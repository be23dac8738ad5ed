/** Two banks of lots whose things are mirrors of one another; ../shared/DOC.md holds the promises. */
public final class HouseTwins {
    public static final int BAD = -1, STATE = -2, FULL = -3, NONE = -4;

    private static final int BANKS = 2;
    private static final int MOST_LOTS = 8;
    private static final int SLOTS = 16;
    private static final int KINDS = 6;
    private static final int COLOURS = 4;
    private static final int SHOP = 3;
    private static final int DOOR = 32;
    private static final int MONTHS = 24;
    private static final int PRICES = 4;
    private static final int MOST_WORKS = 12;
    private static final int MOST_WANTS = 6;
    private static final int MOST_SEEN = 12;
    private static final int IMAGES = 2;
    private static final int SHEETS = 4;
    private static final int LANES = 3;
    private static final int MOST_CELLS = 40;
    private static final int MOST_READ = 13;
    private static final int TAPE_BYTES = 400;
    // What keeps GAIN, WAIT and VEX, which may be below 0, apart from the answers that refuse.
    private static final int SHIFT = 1000;

    private final Tape tape;
    private final Law law;
    private final Scene scene;
    private final Reader reader;
    private final Run run;
    private final Choice choice;
    private final Planner planner;
    private final Past past;
    private final Scene[] images;
    private final boolean[] imageKept;
    private final Sheet[] sheets;
    private int textFault;
    private int sheetFault;

    public HouseTwins() {
        tape = new Tape();
        law = new Law();
        scene = new Scene();
        reader = new Reader(tape);
        run = new Run(law, scene);
        choice = new Choice(law, scene);
        planner = new Planner(law, scene);
        past = new Past(law, scene);
        images = new Scene[IMAGES];
        imageKept = new boolean[IMAGES];
        for (int k = 0; k < IMAGES; k++) {
            images[k] = new Scene();
        }
        sheets = new Sheet[SHEETS];
        for (int k = 0; k < SHEETS; k++) {
            sheets[k] = new Sheet();
        }
    }

    // ---- the text

    public int feed(long v) {
        if (tape.size + 8 > TAPE_BYTES) {
            return FULL;
        }
        tape.append(v);
        return tape.size;
    }

    public int end(int n) {
        if (n < 0 || n > tape.size) {
            return BAD;
        }
        int had = tape.size;
        tape.size = n;
        return had;
    }

    public int text() {
        reader.readAll();
        tape.size = 0;
        textFault = reader.fault;
        if (reader.fault != 0) {
            return -10 - reader.place;
        }
        law.copyFrom(reader.law);
        scene.copyFrom(reader.scene);
        for (int k = 0; k < IMAGES; k++) {
            imageKept[k] = false;
        }
        return reader.lines;
    }

    public int fault() {
        return textFault;
    }

    public int rule(int what) {
        switch (what) {
            case 0:
                return law.lots;
            case 1:
                return law.bend;
            case 2:
                return law.pull;
            case 3:
                return scene.works.size;
            default:
                return what >= 10 && what < 10 + PRICES ? law.price[what - 10] : BAD;
        }
    }

    public int kind(int k, int what) {
        if (!isKind(k)) {
            return BAD;
        }
        switch (what) {
            case 0:
                return law.twinOf(k);
            case 1:
                return law.rightKinds >> k & 1;
            case 10:
            case 11:
                return law.costOf(what - 10, k);
            case 20:
            case 21:
                return law.tasteOf(what - 20, k);
            case 30:
            case 31:
                return law.lacks(what - 30, k) ? 1 : 0;
            default:
                return BAD;
        }
    }

    public int colour(int c) {
        return c >= 0 && c < COLOURS ? law.paint[c] : BAD;
    }

    public int mirror(int thing) {
        return isThing(thing) ? law.mirrorOf(thing) : BAD;
    }

    public int work(int w, int what) {
        Rows works = scene.works;
        if (w < 0 || w >= works.size || what < 0 || what >= works.width) {
            return BAD;
        }
        return works.cell(w, what);
    }

    // ---- what there is

    public int thing(int b, int i) {
        return law.isLot(b, i) ? scene.thingAt(b, i) : BAD;
    }

    public int put(int b, int i, int thing) {
        if (!law.isLot(b, i) || !isThing(thing)) {
            return BAD;
        }
        int was = scene.thingAt(b, i);
        scene.setThing(b, i, thing);
        return was;
    }

    public int match(int b, int i) {
        return law.isLot(b, i) ? law.matchOf(b, i) : BAD;
    }

    public int odd() {
        return law.unevenLots(scene.things);
    }

    public int third(int i) {
        if (!law.isLot(0, i)) {
            return BAD;
        }
        int j = law.matchOf(0, i);
        return j == NONE ? NONE : law.mirrorOf(scene.thingAt(1, j));
    }

    // ---- runs

    public int after(int n, int b, int i) {
        if (n < 0 || n > MONTHS || !law.isLot(b, i)) {
            return BAD;
        }
        run.runMonths(n);
        return run.things[slot(b, i)];
    }

    public int paid(int n, int b) {
        if (n < 0 || n > MONTHS || !isBank(b)) {
            return BAD;
        }
        run.runMonths(n);
        return run.spent[b];
    }

    public int owes(int n, int b) {
        if (n < 0 || n > MONTHS || !isBank(b)) {
            return BAD;
        }
        run.runMonths(n);
        return run.lotsOwedBy(b);
    }

    public int fate(int w) {
        if (w < 0 || w >= scene.works.size || w >= MOST_WORKS) {
            return BAD;
        }
        run.runMonths(MONTHS);
        return run.fates[w];
    }

    public int uneven(int what) {
        if (what < 0 || what > 1) {
            return BAD;
        }
        run.start();
        for (int month = 0; month < MONTHS; month++) {
            run.runMonth(month);
            int lots = law.unevenLots(run.things);
            if (lots != 0) {
                return what == 0 ? month : firstLot(lots);
            }
        }
        return NONE;
    }

    private static int firstLot(int bits) {
        for (int i = 0; i < MOST_LOTS; i++) {
            if ((bits >> i & 1) != 0) {
                return i;
            }
        }
        return NONE;
    }

    public int go() {
        run.runMonths(MONTHS);
        int done = run.worksDone();
        System.arraycopy(run.things, 0, scene.things, 0, SLOTS);
        scene.works.size = 0;
        return done;
    }

    public int plot(int month, int b, int i, int thing) {
        Rows works = scene.works;
        if (month < scene.lastMonth() || month >= MONTHS || !law.isLot(b, i) || !isThing(thing)) {
            return BAD;
        }
        if (works.isFull()) {
            return FULL;
        }
        works.addRow(month, b, i, thing);
        return works.size;
    }

    // ---- to begin or to wait

    public int gain(int b, int i, int k) {
        if (!law.isLot(b, i) || !isBuilt(k)) {
            return BAD;
        }
        return choice.gainOf(b, i, k) + SHIFT;
    }

    public int begin(int b, int i, int what) {
        if (!law.isLot(b, i) || what < 0 || what > 1) {
            return BAD;
        }
        int k = choice.bestKind(b, i);
        if (k == 0) {
            return NONE;
        }
        return what == 0 ? k : choice.gainOf(b, i, k);
    }

    public int waits(int b, int i) {
        if (!law.isLot(b, i)) {
            return BAD;
        }
        int j = law.matchOf(b, i);
        if (j == NONE) {
            return STATE;
        }
        int k = choice.bestKind(1 - b, j);
        return k == 0 ? SHIFT : choice.gainOf(b, i, law.twinOf(k)) + SHIFT;
    }

    public int vex(int b, int what) {
        if (!isBank(b) || what < 0 || what > 2) {
            return BAD;
        }
        choice.findVex(b);
        if (choice.vexLot < 0) {
            return NONE;
        }
        if (what == 0) {
            return choice.vexMost + SHIFT;
        }
        return what == 1 ? choice.vexLot : choice.vexKind;
    }

    // ---- wants

    public int want(int i, int k) {
        if (!law.isLot(0, i) || !isBuilt(k)) {
            return BAD;
        }
        if (scene.wants.isFull()) {
            return FULL;
        }
        scene.wants.addRow(i, k, 0, 0);
        return scene.wants.size;
    }

    public int content() {
        return scene.wants.empty();
    }

    public int plan(int month, int what) {
        int wants = scene.wants.size;
        boolean ofWant = what >= 10 && what < 10 + wants;
        if (month < 0 || month >= PRICES || what != 0 && !ofWant) {
            return BAD;
        }
        if (wants == 0) {
            return STATE;
        }
        int cost = planner.findPlan(month);
        return what == 0 ? cost : planner.monthOf(what - 10);
    }

    public int cannot(int what) {
        if (what < 0 || what > 1) {
            return BAD;
        }
        return what == 0 ? planner.kindsBarred() : planner.costInstead();
    }

    // ---- fires, bends, shops

    public int fire(int b, int i, int what) {
        if (!law.isLot(b, i) || what < 0 || what > 1) {
            return BAD;
        }
        int k = scene.kindAt(b, i);
        if (k == 0) {
            return STATE;
        }
        int again = law.costOf(b, k);
        int down = lossOfBoth(b, i, k);
        if (what == 0) {
            return again <= down ? 1 : 0;
        }
        return Math.min(again, down);
    }

    /** Without a match nothing is left to pull down, so PULL is paid for a PAIR alone. */
    private int lossOfBoth(int b, int i, int k) {
        int own = law.tasteOf(b, k);
        int j = law.matchOf(b, i);
        if (j == NONE) {
            return own;
        }
        return law.pull + own + law.tasteOf(1 - b, scene.kindAt(1 - b, j));
    }

    public int quarrel(int bend) {
        return bend < 0 || bend > 6 ? BAD : quarrelBy(bend);
    }

    private int quarrelBy(int bend) {
        int sum = 0;
        for (int i = 0; i < law.lots; i++) {
            int j = law.matchBy(bend, 0, i);
            if (j == NONE) {
                sum += scene.kindAt(0, i) == 0 ? 0 : 1;
            } else if (!law.isEven(scene.thingAt(0, i), scene.thingAt(1, j))) {
                sum++;
            }
            if (law.matchBy(bend, 1, i) == NONE && scene.kindAt(1, i) != 0) {
                sum++;
            }
        }
        return sum;
    }

    public int bend() {
        int best = 0;
        int least = quarrelBy(0);
        for (int bend = 1; bend <= 6; bend++) {
            int sum = quarrelBy(bend);
            if (sum < least) {
                least = sum;
                best = bend;
            }
        }
        return best;
    }

    public int shops(int b, int what) {
        if (!isBank(b) || what < 0 || what > 1) {
            return BAD;
        }
        int shops = 0;
        for (int i = 0; i < law.lots; i++) {
            if (scene.kindAt(b, i) == SHOP) {
                shops |= 1 << i;
            }
        }
        return what == 0 ? shops & (shops << 1 | shops >> 1) : fewestToGo(shops);
    }

    /** From the low end on, the second of two neighbours goes: it may trouble a third one too. */
    private static int fewestToGo(int shops) {
        int left = shops;
        int gone = 0;
        for (int i = 1; i < MOST_LOTS; i++) {
            if ((left >> (i - 1) & 3) == 3) {
                left &= ~(1 << i);
                gone++;
            }
        }
        return gone;
    }

    // ---- histories

    public int saw(int b, int i, int month, boolean something) {
        if (!law.isLot(b, i) || month < 0 || month >= MONTHS) {
            return BAD;
        }
        if (scene.seen.isFull()) {
            return FULL;
        }
        scene.seen.addRow(b, i, month, something ? 1 : 0);
        return scene.seen.size;
    }

    public int forget() {
        return scene.seen.empty();
    }

    public long histories(int m) {
        if (m < 0 || m >= MONTHS) {
            return BAD;
        }
        long all = 1;
        for (int i = 0; i < law.lots; i++) {
            if (past.hasHistory(i)) {
                past.findHistories(i, m);
                all *= past.found;
            }
        }
        return all;
    }

    public int began(int i, int m, int what) {
        if (!law.isLot(0, i) || m < 0 || m >= MONTHS || what < 0 || what > 2) {
            return BAD;
        }
        if (!past.hasHistory(i)) {
            return STATE;
        }
        past.findHistories(i, m);
        if (past.found == 0) {
            return NONE;
        }
        if (what == 0) {
            return past.onlyBeginner();
        }
        return what == 1 ? past.firstMonth : past.lastMonth;
    }

    // ---- images, sheets

    public int keep(int k) {
        if (k < 0 || k >= IMAGES) {
            return BAD;
        }
        int was = imageKept[k] ? 1 : 0;
        images[k].copyFrom(scene);
        imageKept[k] = true;
        return was;
    }

    public int back(int k) {
        if (k < 0 || k >= IMAGES) {
            return BAD;
        }
        if (!imageKept[k]) {
            return STATE;
        }
        scene.copyFrom(images[k]);
        return scene.countThings();
    }

    public int sheet(int k, int lane, int n) {
        if (!isSheet(k) || !isLane(lane) || n > MOST_CELLS) {
            return BAD;
        }
        if (n < 0) {
            return -10 - Sheet.SIZE;
        }
        sheets[k].renew(lane, n);
        return 1;
    }

    public int lay(int k, int i, int v) {
        if (!isSheet(k)) {
            return BAD;
        }
        int found = sheets[k].faultAt(i);
        if (found != 0) {
            return -10 - found;
        }
        sheets[k].setCell(i, v);
        return 1;
    }

    public int read(int k, int lane, int f, int n) {
        if (!isSheet(k) || !isLane(lane) || n < 0 || n > MOST_READ) {
            return BAD;
        }
        Sheet from = sheets[k];
        int found = from.faultOfReading(lane, f, n);
        int whole = found == 0 ? n : from.wholeThings(lane, f, n);
        for (int t = 0; t < whole; t++) {
            int c = f + 3 * t;
            if (!law.isLot(from.cell(c), from.cell(c + 1)) || !isThing(from.cell(c + 2))) {
                return -20 - t;
            }
        }
        for (int t = 0; t < whole; t++) {
            int c = f + 3 * t;
            scene.setThing(from.cell(c), from.cell(c + 1), from.cell(c + 2));
        }
        sheetFault = found;
        return whole;
    }

    public int torn() {
        return sheetFault;
    }

    public int count(int what) {
        switch (what) {
            case 0:
                return scene.countThings();
            case 1:
                return law.countPairs();
            case 2:
                return scene.wants.size;
            case 3:
                return scene.seen.size;
            case 4:
                return (imageKept[0] ? 1 : 0) + (imageKept[1] ? 1 : 0);
            case 5:
                return tape.size;
            case 6:
                return sheets[0].size < 0 ? NONE : sheets[0].size;
            default:
                return BAD;
        }
    }

    // ---- what numbers stand for

    private static boolean isBank(int b) {
        return b >= 0 && b < BANKS;
    }

    private static boolean isKind(int k) {
        return k >= 0 && k < KINDS;
    }

    private static boolean isBuilt(int k) {
        return k >= 1 && k < KINDS;
    }

    private static boolean isThing(int thing) {
        return thing == 0 || thing > 0 && thing < 2 * DOOR && isBuilt(thing & 7);
    }

    private static boolean isSheet(int k) {
        return k >= 0 && k < SHEETS;
    }

    private static boolean isLane(int lane) {
        return lane >= 0 && lane < LANES;
    }

    private static boolean isSlot(int b, int i) {
        return isBank(b) && i >= 0 && i < MOST_LOTS;
    }

    private static int slot(int b, int i) {
        return b * MOST_LOTS + i;
    }

    /** What a text tells but THINGS and WORKS. */
    private static final class Law {
        int lots;
        int bend;
        int pull;
        int rightKinds;
        final int[] price = new int[PRICES];
        final int[][] cost = new int[BANKS][KINDS];
        final int[][] taste = new int[BANKS][KINDS];
        final int[] lackedKinds = new int[BANKS];
        final int[] twin = new int[KINDS];
        final int[] paint = new int[COLOURS];

        Law() {
            setFirst();
        }

        void setFirst() {
            lots = 5;
            bend = 3;
            pull = 1;
            rightKinds = 0;
            for (int q = 0; q < PRICES; q++) {
                price[q] = 1;
            }
            for (int b = 0; b < BANKS; b++) {
                lackedKinds[b] = 0;
                for (int k = 1; k < KINDS; k++) {
                    cost[b][k] = 5;
                    taste[b][k] = 3;
                }
            }
            for (int k = 0; k < KINDS; k++) {
                twin[k] = k;
            }
            for (int c = 0; c < COLOURS; c++) {
                paint[c] = c;
            }
        }

        void copyFrom(Law other) {
            lots = other.lots;
            bend = other.bend;
            pull = other.pull;
            rightKinds = other.rightKinds;
            System.arraycopy(other.price, 0, price, 0, PRICES);
            System.arraycopy(other.lackedKinds, 0, lackedKinds, 0, BANKS);
            System.arraycopy(other.twin, 0, twin, 0, KINDS);
            System.arraycopy(other.paint, 0, paint, 0, COLOURS);
            for (int b = 0; b < BANKS; b++) {
                System.arraycopy(other.cost[b], 0, cost[b], 0, KINDS);
                System.arraycopy(other.taste[b], 0, taste[b], 0, KINDS);
            }
        }

        boolean isLot(int b, int i) {
            return isSlot(b, i) && i < lots;
        }

        int twinOf(int k) {
            return isKind(k) ? twin[k] : 0;
        }

        int costOf(int b, int k) {
            return isBank(b) && isBuilt(k) ? cost[b][k] : pull;
        }

        int tasteOf(int b, int k) {
            return isBank(b) && isBuilt(k) ? taste[b][k] : 0;
        }

        boolean lacks(int b, int k) {
            return isBank(b) && isBuilt(k) && (lackedKinds[b] >> k & 1) != 0;
        }

        /** Whether neither the bank nor, by the twin, the one across the water LACKS what it takes. */
        boolean mayBuild(int b, int i, int k) {
            return !lacks(b, k) && (matchOf(b, i) == NONE || !lacks(1 - b, twinOf(k)));
        }

        int matchOf(int b, int i) {
            return matchBy(bend, b, i);
        }

        int matchBy(int someBend, int b, int i) {
            int j = b == 0 ? i + someBend - 3 : i - someBend + 3;
            return j >= 0 && j < lots ? j : NONE;
        }

        int countPairs() {
            int pairs = 0;
            for (int i = 0; i < lots; i++) {
                pairs += matchOf(0, i) == NONE ? 0 : 1;
            }
            return pairs;
        }

        int mirrorOf(int thing) {
            int k = thing & 7;
            if (!isBuilt(k)) {
                return 0;
            }
            int door = thing & DOOR;
            int twinDoor = doorStays(k) ? door : DOOR - door;
            return twin[k] + 8 * paint[thing >> 3 & 3] + twinDoor;
        }

        /** A twin's doors stay too: else the mirror of the mirror would be another thing. */
        private boolean doorStays(int k) {
            return (rightKinds >> k & 1) != 0 || (rightKinds >> twin[k] & 1) != 0;
        }

        boolean isEven(int one, int other) {
            return mirrorOf(one) == other;
        }

        /** LOTS of BANK 0 (bits) whose PAIRS are not EVEN, by the THINGS of all slots. */
        int unevenLots(int[] things) {
            int bits = 0;
            for (int i = 0; i < lots; i++) {
                int j = matchOf(0, i);
                if (j != NONE && !isEven(things[slot(0, i)], things[slot(1, j)])) {
                    bits |= 1 << i;
                }
            }
            return bits;
        }
    }

    /** A table of rows of at most four numbers, made once: nothing is made anew as it grows. */
    private static final class Rows {
        final int most;
        final int width;
        final int[] cells;
        int size;

        Rows(int most, int width) {
            this.most = most;
            this.width = width;
            cells = new int[most * width];
        }

        boolean isFull() {
            return size >= most;
        }

        void addRow(int first, int second, int third, int fourth) {
            if (isFull()) {
                return;
            }
            int row = size;
            size++;
            setCell(row, 0, first);
            setCell(row, 1, second);
            setCell(row, 2, third);
            setCell(row, 3, fourth);
        }

        private void setCell(int row, int column, int v) {
            if (column < width) {
                cells[row * width + column] = v;
            }
        }

        int cell(int row, int column) {
            if (row < 0 || row >= size || column < 0 || column >= width) {
                return 0;
            }
            return cells[row * width + column];
        }

        int empty() {
            int had = size;
            size = 0;
            return had;
        }

        void copyFrom(Rows other) {
            size = other.size;
            System.arraycopy(other.cells, 0, cells, 0, Math.min(cells.length, other.cells.length));
        }
    }

    /** What an IMAGE holds: all that changes without a text. */
    private static final class Scene {
        static final int MONTH = 0, BANK = 1, LOT = 2, THING = 3;
        static final int WANT_KIND = 1;
        static final int SEEN_BANK = 0, SEEN_LOT = 1, SEEN_MONTH = 2, SEEN_SOMETHING = 3;

        final int[] things = new int[SLOTS];
        final Rows works = new Rows(MOST_WORKS, 4);
        final Rows wants = new Rows(MOST_WANTS, 2);
        final Rows seen = new Rows(MOST_SEEN, 4);

        void clear() {
            for (int s = 0; s < SLOTS; s++) {
                things[s] = 0;
            }
            works.empty();
            wants.empty();
            seen.empty();
        }

        void copyFrom(Scene other) {
            System.arraycopy(other.things, 0, things, 0, SLOTS);
            works.copyFrom(other.works);
            wants.copyFrom(other.wants);
            seen.copyFrom(other.seen);
        }

        int thingAt(int b, int i) {
            return isSlot(b, i) ? things[slot(b, i)] : 0;
        }

        int kindAt(int b, int i) {
            return thingAt(b, i) & 7;
        }

        void setThing(int b, int i, int thing) {
            if (isSlot(b, i)) {
                things[slot(b, i)] = thing;
            }
        }

        int countThings() {
            int some = 0;
            for (int s = 0; s < SLOTS; s++) {
                some += things[s] == 0 ? 0 : 1;
            }
            return some;
        }

        /** The month that a further WORK must not be below. */
        int lastMonth() {
            return works.cell(works.size - 1, MONTH);
        }
    }

    /** THE TAPE. */
    private static final class Tape {
        final int[] bytes = new int[TAPE_BYTES];
        int size;

        void append(long v) {
            for (int shift = 56; shift >= 0 && size < TAPE_BYTES; shift -= 8) {
                bytes[size] = (int) (v >>> shift) & 255;
                size++;
            }
        }

        int byteAt(int p) {
            return p >= 0 && p < size && p < TAPE_BYTES ? bytes[p] : -1;
        }
    }

    /**
     * Reads THE TAPE into a law and a scene of its own, so that a FAULT leaves what was told.
     * Once there is a FAULT, whatever takes or tells does nothing more: the first one met stays.
     */
    private static final class Reader {
        static final int NO_TOKEN = 1, MISPLACED = 2, OUT_OF_BOUNDS = 3, TWICE = 4, THIRTEENTH = 5, NO_LOT = 6;
        static final int THE_END = 0, NAME = 1, NUMBER = 2, STOP = 3, UNKNOWN = 4;
        static final String LINES = "lots bend pull price cost taste lack twin paint right thing work";
        static final int LOTS = 0, BEND = 1, PULL = 2, PRICE = 3, COST = 4, TASTE = 5;
        static final int LACK = 6, TWIN = 7, PAINT = 8, RIGHT = 9, THING = 10, WORK = 11;
        static final String BUILT_KINDS = "house garden shop tower shrine";
        static final String THING_NAMES = "nothing house garden shop tower shrine";
        static final String SIDES = "left right";
        // Bits of what was told, behind those of the lines lots, bend, pull, price.
        static final int TOLD_COST = 4, TOLD_TASTE = 6, TOLD_KIND = 8, TOLD_COLOUR = 14, TOLD_THING = 18;

        final Law law = new Law();
        final Scene scene = new Scene();
        int fault;
        int place;
        int lines;
        private final Tape tape;
        private int next;
        private int start;
        private int type;
        private int figures;
        private long told;

        Reader(Tape tape) {
            this.tape = tape;
        }

        void readAll() {
            restart();
            takeToken();
            // A line takes a byte at least, so the bytes bound the lines.
            for (int i = 0; i < TAPE_BYTES && fault == 0 && type != THE_END; i++) {
                readLine();
                takeStop();
                takeToken();
                lines++;
            }
            if (fault == 0 && !allLotsAre()) {
                fail(NO_LOT, tape.size);
            }
        }

        private void restart() {
            law.setFirst();
            scene.clear();
            fault = 0;
            place = 0;
            lines = 0;
            next = 0;
            told = 0;
        }

        private int fail(int what, int where) {
            fault = what;
            place = where;
            return -1;
        }

        // ---- tokens

        private void takeToken() {
            if (fault != 0) {
                return;
            }
            while (next < tape.size && tape.byteAt(next) == ' ') {
                next++;
            }
            start = next;
            type = typeOf(tape.byteAt(next));
            figures = 0;
            if (type == STOP) {
                next++;
            }
            while (next < tape.size && (type == NAME || type == NUMBER) && typeOf(tape.byteAt(next)) == type) {
                figures = type == NUMBER ? 10 * figures + tape.byteAt(next) - '0' : 0;
                next++;
            }
            if (type == UNKNOWN || type == NUMBER && next - start > 2) {
                fail(NO_TOKEN, start);
            }
        }

        private static int typeOf(int sign) {
            if (sign < 0) {
                return THE_END;
            }
            if (sign >= 'a' && sign <= 'z') {
                return NAME;
            }
            if (sign >= '0' && sign <= '9') {
                return NUMBER;
            }
            return sign == ';' ? STOP : UNKNOWN;
        }

        /** Which of some words, parted by blanks, the token is; -1: none of them. */
        private int nameAmong(String words) {
            int word = 0;
            int at = start;
            boolean same = type == NAME;
            for (int p = 0; p <= words.length(); p++) {
                if (p == words.length() || words.charAt(p) == ' ') {
                    if (same && at == next) {
                        return word;
                    }
                    word++;
                    at = start;
                    same = type == NAME;
                } else {
                    same = same && at < next && words.charAt(p) == tape.byteAt(at);
                    at++;
                }
            }
            return -1;
        }

        // ---- what may stand in a line; each answers -1 once there is a FAULT

        private int takeNumber(int least, int most) {
            takeToken();
            if (fault != 0) {
                return -1;
            }
            if (type != NUMBER) {
                return fail(MISPLACED, start);
            }
            return figures < least || figures > most ? fail(OUT_OF_BOUNDS, start) : figures;
        }

        private int takeBank() {
            return takeNumber(0, BANKS - 1);
        }

        private int takeNameOf(String words) {
            takeToken();
            if (fault != 0) {
                return -1;
            }
            int word = nameAmong(words);
            return word < 0 ? fail(MISPLACED, start) : word;
        }

        private int takeThing() {
            int k = takeNameOf(THING_NAMES);
            if (k <= 0) {
                return k;
            }
            int c = takeNumber(0, COLOURS - 1);
            int side = takeNameOf(SIDES);
            return fault == 0 ? k + 8 * c + DOOR * side : -1;
        }

        private void takeStop() {
            takeToken();
            if (fault == 0 && type != STOP) {
                fail(MISPLACED, start);
            }
        }

        /** Notes that the token just taken told something that may be told once. */
        private void tellOnce(int bit) {
            if (fault != 0) {
                return;
            }
            if ((told >> bit & 1) != 0) {
                fail(TWICE, start);
            }
            told |= 1L << bit;
        }

        // ---- lines

        private void readLine() {
            int line = nameAmong(LINES);
            if (line < 0) {
                fail(MISPLACED, start);
            }
            switch (line) {
                case LOTS:
                    tellOnce(LOTS);
                    law.lots = takeNumber(1, MOST_LOTS);
                    break;
                case BEND:
                    tellOnce(BEND);
                    law.bend = takeNumber(0, 6);
                    break;
                case PULL:
                    tellOnce(PULL);
                    law.pull = takeNumber(0, 20);
                    break;
                case PRICE:
                    tellOnce(PRICE);
                    readPrices();
                    break;
                case COST:
                    readOfKinds(law.cost, TOLD_COST);
                    break;
                case TASTE:
                    readOfKinds(law.taste, TOLD_TASTE);
                    break;
                case LACK:
                    readLack();
                    break;
                case TWIN:
                    readTwins();
                    break;
                case PAINT:
                    readPaint();
                    break;
                case RIGHT:
                    readRight();
                    break;
                case THING:
                    readThing();
                    break;
                case WORK:
                    readWork();
                    break;
                default:
                    break;
            }
        }

        private void readPrices() {
            for (int q = 0; q < PRICES && fault == 0; q++) {
                law.price[q] = takeNumber(1, 9);
            }
        }

        private void readOfKinds(int[][] rows, int firstBit) {
            int b = takeBank();
            tellOnce(firstBit + b);
            for (int k = 1; k < KINDS && fault == 0; k++) {
                rows[b][k] = takeNumber(0, 20);
            }
        }

        private void readLack() {
            int b = takeBank();
            int k = takeNameOf(BUILT_KINDS) + 1;
            if (fault == 0) {
                law.lackedKinds[b] |= 1 << k;
            }
        }

        private void readTwins() {
            int one = takeNameOf(BUILT_KINDS) + 1;
            tellOnce(TOLD_KIND + one);
            int other = takeNameOf(BUILT_KINDS) + 1;
            tellOnce(TOLD_KIND + other);
            if (fault == 0) {
                law.twin[one] = other;
                law.twin[other] = one;
            }
        }

        private void readPaint() {
            int one = takeNumber(0, COLOURS - 1);
            tellOnce(TOLD_COLOUR + one);
            int other = takeNumber(0, COLOURS - 1);
            tellOnce(TOLD_COLOUR + other);
            if (fault == 0) {
                law.paint[one] = other;
                law.paint[other] = one;
            }
        }

        private void readRight() {
            int k = takeNameOf(BUILT_KINDS) + 1;
            if (fault == 0) {
                law.rightKinds |= 1 << k;
            }
        }

        private void readThing() {
            int b = takeBank();
            int i = takeNumber(0, MOST_LOTS - 1);
            tellOnce(TOLD_THING + slot(b, i));
            int thing = takeThing();
            if (fault == 0) {
                scene.setThing(b, i, thing);
            }
        }

        private void readWork() {
            if (scene.works.isFull()) {
                fail(THIRTEENTH, start);
            }
            int month = takeNumber(scene.lastMonth(), MONTHS - 1);
            int b = takeBank();
            int i = takeNumber(0, MOST_LOTS - 1);
            int thing = takeThing();
            if (fault == 0) {
                scene.works.addRow(month, b, i, thing);
            }
        }

        private boolean allLotsAre() {
            for (int b = 0; b < BANKS; b++) {
                for (int i = law.lots; i < MOST_LOTS; i++) {
                    if ((told >> (TOLD_THING + slot(b, i)) & 1) != 0) {
                        return false;
                    }
                }
            }
            for (int w = 0; w < scene.works.size; w++) {
                if (scene.works.cell(w, Scene.LOT) >= law.lots) {
                    return false;
                }
            }
            return true;
        }
    }

    /** A RUN: a try on things of its own, from what there is now. */
    private static final class Run {
        static final int DONE = 0, GAVE_WAY = 1, BARRED = 2;

        final int[] things = new int[SLOTS];
        final int[] spent = new int[BANKS];
        final int[] fates = new int[MOST_WORKS];
        private final Law law;
        private final Scene scene;
        // By LOTS of BANK 0: the BANK that was the LATEST at the PAIR, or NONE.
        private final int[] latest = new int[MOST_LOTS];
        // By slots: the month in which a LOT was last WORKED on, or NONE.
        private final int[] worked = new int[SLOTS];

        Run(Law law, Scene scene) {
            this.law = law;
            this.scene = scene;
        }

        void runMonths(int n) {
            start();
            for (int month = 0; month < n; month++) {
                runMonth(month);
            }
        }

        void start() {
            for (int s = 0; s < SLOTS; s++) {
                things[s] = scene.things[s];
                worked[s] = NONE;
            }
            for (int i = 0; i < MOST_LOTS; i++) {
                latest[i] = NONE;
            }
            for (int b = 0; b < BANKS; b++) {
                spent[b] = 0;
            }
        }

        void runMonth(int month) {
            Rows works = scene.works;
            for (int w = 0; w < works.size && w < MOST_WORKS; w++) {
                if (works.cell(w, Scene.MONTH) == month) {
                    fates[w] = tryWork(month, works.cell(w, Scene.BANK), works.cell(w, Scene.LOT),
                            works.cell(w, Scene.THING));
                }
            }
            for (int i = 0; i < law.lots; i++) {
                answer(month, i);
            }
        }

        private int tryWork(int month, int b, int i, int thing) {
            if (!law.isLot(b, i) || !law.mayBuild(b, i, thing & 7)) {
                return BARRED;
            }
            int j = law.matchOf(b, i);
            if (j != NONE && worked[slot(1 - b, j)] == month && !law.isEven(thing, things[slot(1 - b, j)])) {
                return GAVE_WAY;
            }
            build(b, i, thing);
            worked[slot(b, i)] = month;
            if (j != NONE) {
                latest[b == 0 ? i : j] = b;
            }
            return DONE;
        }

        private void build(int b, int i, int thing) {
            spent[b] += law.costOf(b, thing & 7);
            things[slot(b, i)] = thing;
        }

        /** At the end of a month, the one who was not the LATEST follows. */
        private void answer(int month, int i) {
            int j = law.matchOf(0, i);
            if (j == NONE || latest[i] == NONE || isEvenPair(i, j)) {
                return;
            }
            if (worked[slot(0, i)] == month || worked[slot(1, j)] == month) {
                return;
            }
            if (latest[i] == 0) {
                build(1, j, law.mirrorOf(things[slot(0, i)]));
            } else {
                build(0, i, law.mirrorOf(things[slot(1, j)]));
            }
        }

        private boolean isEvenPair(int i, int j) {
            return law.mirrorOf(things[slot(0, i)]) == things[slot(1, j)];
        }

        int lotsOwedBy(int b) {
            int bits = 0;
            for (int i = 0; i < law.lots; i++) {
                int j = law.matchOf(0, i);
                if (j != NONE && latest[i] == 1 - b && !isEvenPair(i, j)) {
                    bits |= 1 << (b == 0 ? i : j);
                }
            }
            return bits;
        }

        int worksDone() {
            int done = 0;
            for (int w = 0; w < scene.works.size && w < MOST_WORKS; w++) {
                done += fates[w] == DONE ? 1 : 0;
            }
            return done;
        }
    }

    /** GAIN, BEGIN and VEX. */
    private static final class Choice {
        int vexMost;
        int vexLot;
        int vexKind;
        private final Law law;
        private final Scene scene;

        Choice(Law law, Scene scene) {
            this.law = law;
            this.scene = scene;
        }

        int gainOf(int b, int i, int k) {
            return law.tasteOf(b, k) - law.costOf(b, k) - law.tasteOf(b, scene.kindAt(b, i));
        }

        /** The KIND of BEGIN; 0: it does not BEGIN. */
        int bestKind(int b, int i) {
            int best = 0;
            int most = 0;
            for (int k = 1; k < KINDS; k++) {
                int gained = gainOf(b, i, k);
                if (gained > most && law.mayBuild(b, i, k)) {
                    most = gained;
                    best = k;
                }
            }
            return best;
        }

        /** Leaves vexLot at NONE, if there is no such WORK. */
        void findVex(int b) {
            vexMost = 0;
            vexLot = NONE;
            vexKind = 0;
            for (int i = 0; i < law.lots; i++) {
                int j = law.matchOf(b, i);
                for (int k = 1; k < KINDS && j != NONE; k++) {
                    if (k != scene.kindAt(b, i) && law.mayBuild(b, i, k)) {
                        weighVex(b, i, j, k);
                    }
                }
            }
        }

        private void weighVex(int b, int i, int j, int k) {
            int other = 1 - b;
            int twin = law.twinOf(k);
            int vexed = law.costOf(other, twin) + law.tasteOf(other, scene.kindAt(other, j)) - law.tasteOf(other, twin);
            boolean cheaper = vexed == vexMost && law.costOf(b, k) < law.costOf(b, vexKind);
            if (vexLot == NONE || vexed > vexMost || cheaper) {
                vexMost = vexed;
                vexLot = i;
                vexKind = k;
            }
        }
    }

    /** A PLAN, and what can not be planned. */
    private static final class Planner {
        // Twelve months hold three of each PRICE: a state counts, in base 4, those of each that are taken.
        static final int MONTHS_OF_PRICE = 3;
        static final int STATES = 256;
        // Above every sum and every month of a PLAN.
        static final int BEYOND = 1000000;

        private final Law law;
        private final Scene scene;
        private final int[] least = new int[STATES];
        private final int[] weights = new int[MOST_WANTS];
        private final int[] months = new int[MOST_WANTS];

        Planner(Law law, Scene scene) {
            this.law = law;
            this.scene = scene;
        }

        int monthOf(int want) {
            return want >= 0 && want < MOST_WANTS ? months[want] : 0;
        }

        int findPlan(int firstMonth) {
            int wants = Math.min(scene.wants.size, MOST_WANTS);
            for (int w = 0; w < wants; w++) {
                int k = scene.wants.cell(w, Scene.WANT_KIND);
                weights[w] = law.costOf(0, k) + law.costOf(1, law.twinOf(k));
            }
            for (int state = STATES - 1; state >= 0; state--) {
                int placed = taken(state, 0) + taken(state, 1) + taken(state, 2) + taken(state, 3);
                least[state] = placed < wants ? leastFrom(state, weights[placed]) : 0;
            }
            placeWants(firstMonth, wants);
            return least[0];
        }

        private static int taken(int state, int q) {
            return state >> (2 * q) & 3;
        }

        private static int withOneMore(int state, int q) {
            return state + (1 << (2 * q)) & STATES - 1;
        }

        private int costWith(int state, int q, int weight) {
            return law.price[q] * weight + least[withOneMore(state, q)];
        }

        private int leastFrom(int state, int weight) {
            int best = BEYOND;
            for (int q = 0; q < PRICES; q++) {
                if (taken(state, q) < MONTHS_OF_PRICE) {
                    best = Math.min(best, costWith(state, q, weight));
                }
            }
            return best;
        }

        /** Want by want the first month that still leads to the least sum. */
        private void placeWants(int firstMonth, int wants) {
            int state = 0;
            for (int w = 0; w < wants; w++) {
                int chosen = 0;
                months[w] = BEYOND;
                for (int q = 0; q < PRICES; q++) {
                    int month = firstMonth + (q - firstMonth & 3) + PRICES * taken(state, q);
                    boolean free = taken(state, q) < MONTHS_OF_PRICE;
                    if (free && month < months[w] && costWith(state, q, weights[w]) == least[state]) {
                        months[w] = month;
                        chosen = q;
                    }
                }
                state = withOneMore(state, chosen);
            }
        }

        int kindsBarred() {
            int bits = 0;
            for (int w = 0; w < scene.wants.size; w++) {
                int k = scene.wants.cell(w, Scene.WANT_KIND);
                if (law.lacks(0, k) || law.lacks(1, law.twinOf(k))) {
                    bits |= 1 << k;
                }
            }
            return bits;
        }

        int costInstead() {
            int cheapest = NONE;
            for (int k = 1; k < KINDS; k++) {
                if (!law.lacks(1, k) && (cheapest == NONE || law.costOf(1, k) < cheapest)) {
                    cheapest = law.costOf(1, k);
                }
            }
            if (cheapest == NONE) {
                return NONE;
            }
            int sum = 0;
            for (int w = 0; w < scene.wants.size; w++) {
                int twin = law.twinOf(scene.wants.cell(w, Scene.WANT_KIND));
                sum += law.lacks(1, twin) ? cheapest : 0;
            }
            return sum;
        }
    }

    /** HISTORIES of one PAIR, told by its LOT of BANK 0. */
    private static final class Past {
        int found;
        int firstMonth;
        int lastMonth;
        private int beginners;
        private final Law law;
        private final Scene scene;

        Past(Law law, Scene scene) {
            this.law = law;
            this.scene = scene;
        }

        boolean hasHistory(int i) {
            int j = law.matchOf(0, i);
            int thing = scene.thingAt(0, i);
            return j != NONE && thing != 0 && law.isEven(thing, scene.thingAt(1, j));
        }

        void findHistories(int i, int m) {
            found = 0;
            beginners = 0;
            for (int month = 0; month <= m; month++) {
                for (int later = month; later <= month + 1 && later <= m; later++) {
                    if (fitsSeen(i, month, later)) {
                        note(0, month);
                    }
                    if (fitsSeen(i, later, month)) {
                        note(1, month);
                    }
                }
            }
        }

        private void note(int beginner, int month) {
            if (found == 0) {
                firstMonth = month;
            }
            lastMonth = month;
            beginners |= 1 << beginner;
            found++;
        }

        /** Whether LOT i of BANK 0, built in one month, and its match, built in another, fit all that was SEEN. */
        private boolean fitsSeen(int i, int built0, int built1) {
            int j = law.matchOf(0, i);
            Rows seen = scene.seen;
            for (int s = 0; s < seen.size; s++) {
                boolean first = seen.cell(s, Scene.SEEN_BANK) == 0;
                if (seen.cell(s, Scene.SEEN_LOT) == (first ? i : j)) {
                    boolean stood = (first ? built0 : built1) <= seen.cell(s, Scene.SEEN_MONTH);
                    if (stood != (seen.cell(s, Scene.SEEN_SOMETHING) == 1)) {
                        return false;
                    }
                }
            }
            return true;
        }

        int onlyBeginner() {
            return beginners == 3 ? NONE : beginners - 1;
        }
    }

    /** A SHEET, made once: a new row takes the same cells, each cut to what its lane holds. */
    private static final class Sheet {
        static final int NULL = 1, INDEX = 2, CAST = 3, SIZE = 4;

        // Below 0: nothing.
        int size = -1;
        private int lane;
        private final int[] cells = new int[MOST_CELLS];

        void renew(int newLane, int n) {
            lane = newLane;
            size = Math.min(n, MOST_CELLS);
            for (int c = 0; c < MOST_CELLS; c++) {
                cells[c] = 0;
            }
        }

        int faultAt(int c) {
            if (size < 0) {
                return NULL;
            }
            return c < 0 || c >= size ? INDEX : 0;
        }

        void setCell(int c, int v) {
            if (faultAt(c) == 0) {
                cells[c] = lane == 0 ? (byte) v : lane == 1 ? (short) v : v;
            }
        }

        int cell(int c) {
            return faultAt(c) == 0 ? cells[c] : 0;
        }

        /** How many of n THINGS from CELL f on are whole ahead of a FAULT. */
        int wholeThings(int takenAs, int f, int n) {
            if (size < 0 || lane != takenAs || f < 0 || f >= size) {
                return 0;
            }
            return Math.min(n, (size - f) / 3);
        }

        /**
         * The machine refuses only where a THING is read: none, no FAULT.
         * It takes nothing as a row of any lane, and finds that where a CELL is read.
         */
        int faultOfReading(int takenAs, int f, int n) {
            if (wholeThings(takenAs, f, n) >= n) {
                return 0;
            }
            if (size < 0) {
                return NULL;
            }
            return lane != takenAs ? CAST : INDEX;
        }
    }
}
