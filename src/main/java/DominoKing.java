import java.util.Arrays;

/** A king in dominoes: stones, the picture that they make, what is best and what will be, and the rows that tell it. */
public final class DominoKing {
    public static final int BAD = -1000000001;
    public static final int NO = -1000000002;
    public static final int FULL = -1000000003;
    public static final int NONE = -1000000005;
    public static final int NOTHING = -1000000011;
    public static final int KIND = -1000000012;
    public static final int INDEX = -1000000013;
    public static final int SIZE = -1000000014;

    private static final int STONES = 12;
    private static final int PLACES = 12;
    private static final int IN_A_ROW = 3;
    private static final int ROWS = 4;
    private static final int CELLS = 24;
    private static final int CELLS_IN_A_ROW = 6;
    private static final int MOST_SPOTS = 6;
    private static final int BOX = 12;
    /** Where a stone is of which it is thought that it is lost: neither laid nor in the box. */
    private static final int GONE = 13;
    private static final int EMPTY = -1;
    private static final int BARE_CELL = 99;
    private static final int MOST_WANT = 99;
    private static final int MOST_WIND = 100;
    private static final int LAST_DAY = 9999;

    private static final int IVORY = 1;
    private static final int CHALK = 2;
    private static final int YELLOW = 3;
    private static final int DUSTY = 4;
    private static final int BLANK = 5;
    private static final int KINDS = 6;
    /** The kind above each kind; the top stands above itself. */
    private static final int[] ABOVE = {0, 0, 0, 1, 2, 0};

    private static final int KEYS = 3;
    private static final int KEY_DARK = 0;
    private static final int KEY_FEE = 1;
    private static final int KEY_FINE = 2;
    private static final int TEXTS = 14;
    private static final int TAPE = 96;
    private static final int FAULTS = -100;

    private static final int SHEETS = 4;
    private static final int SHEET_PLACES = 24;
    private static final int MISSING = -1;
    private static final int SHORTS = 0;
    private static final int FLOATS = 1;
    private static final int MOST_FLOAT = 99999;
    private static final int SLOTS = 5;
    private static final int HOLDS_STONE = 1;
    private static final int HOLDS_SHEET = 2;
    private static final int HOLDS_NUMBER = 3;
    private static final int WAITING = 60;

    private static final int MOST_FIRST_PLACES = 6;
    private static final int MOST_LAID_DAYS = 200;

    private final Table now = new Table();
    private final Table image = new Table();
    private final Thoughts thoughts = new Thoughts();
    private final Tape tape = new Tape();
    private final Reader reader = new Reader(tape);
    private final Sheet[] sheets = new Sheet[SHEETS];
    private final Slot[] slots = new Slot[SLOTS];
    private final int[] waiting = new int[WAITING];
    private int waits;
    private boolean kept;

    public DominoKing() {
        for (int i = 0; i < SHEETS; i++) {
            sheets[i] = new Sheet();
        }
        for (int i = 0; i < SLOTS; i++) {
            slots[i] = new Slot();
        }
    }

    // ---- stones, cells

    public int stone(int kind, int left, int right) {
        if (!within(kind, 0, KINDS - 1) || !within(left, 0, MOST_SPOTS) || !within(right, 0, MOST_SPOTS)) {
            return BAD;
        }
        if (now.stones >= STONES) {
            return FULL;
        }
        return now.addStone(kind, left, right);
    }

    public int told(int stone, int what) {
        if (!isStone(stone)) {
            return BAD;
        }
        switch (what) {
            case 0: return now.kinds[stone];
            case 1: return now.lefts[stone];
            case 2: return now.rights[stone];
            case 3: return now.places[stone];
            case 4: return now.turned[stone];
            case 5: return now.heavy(stone);
            case 6: return Kinds.worth(now.kinds[stone], now.lefts[stone], now.rights[stone]);
            default: return BAD;
        }
    }

    public int off(int stone, int place, int turn) {
        if (!isStone(stone) || !isPlace(place) || !within(turn, 0, 1)) {
            return BAD;
        }
        return now.offAt(stone, place, turn);
    }

    public int as(int stone, int kind) {
        if (!isStone(stone) || !within(kind, 0, KINDS - 1)) {
            return BAD;
        }
        return Kinds.isOf(now.kinds[stone], kind) ? now.lefts[stone] : KIND;
    }

    public int turns(int stone, int kind) {
        if (!isStone(stone) || !within(kind, 0, KINDS - 1)) {
            return BAD;
        }
        int was = now.kinds[stone];
        now.kinds[stone] = kind;
        now.darken(stone);
        return was;
    }

    public int put(int stone, int place, int turn) {
        if (!isStone(stone) || !isPlace(place) || !within(turn, 0, 1)) {
            return BAD;
        }
        if (now.held[place] != EMPTY && now.held[place] != stone) {
            return NO;
        }
        int was = now.places[stone];
        now.moveTo(stone, place);
        now.turned[stone] = turn;
        return was;
    }

    public int box(int stone) {
        if (!isStone(stone)) {
            return BAD;
        }
        int was = now.places[stone];
        now.moveTo(stone, BOX);
        return was;
    }

    public int want(int cell, int v) {
        if (!within(cell, 0, CELLS - 1) || !within(v, 0, MOST_WANT)) {
            return BAD;
        }
        int was = now.wants[cell];
        now.wants[cell] = v;
        return was;
    }

    public int wind(int v) {
        if (!within(v, 0, MOST_WIND)) {
            return BAD;
        }
        int was = now.wind;
        now.wind = v;
        return was;
    }

    public int deal(int n) {
        if (!within(n, 1, STONES)) {
            return BAD;
        }
        int came = Math.min(n, STONES - now.stones);
        for (int i = 0; i < came; i++) {
            now.drawStone();
        }
        return came;
    }

    public int seed(int v) {
        int was = now.z;
        now.z = v;
        return was;
    }

    // ---- days

    public int days(int n) {
        if (!within(n, 1, 100)) {
            return BAD;
        }
        int before = now.laidStones();
        now.passDays(Math.min(n, LAST_DAY - now.day));
        return now.laidStones() - before;
    }

    public int king(int what) {
        switch (what) {
            case 0: return now.picture();
            case 1: return now.matches();
            case 2: return now.laidStones();
            case 3: return now.placesHeld();
            default: return BAD;
        }
    }

    public int at(int place) {
        return isPlace(place) ? stoneOrNone(now.held[place]) : BAD;
    }

    // ---- what is best, what will be

    public int best(int m, int what) {
        if (!within(m, 1, MOST_FIRST_PLACES) || !within(what, 0, 1)) {
            return BAD;
        }
        return thoughts.bestLaying(now, m, what);
    }

    public int bestFor(int place, int what) {
        if (!isPlace(place) || !within(what, 0, 1)) {
            return BAD;
        }
        int least = NONE;
        int which = NONE;
        for (int stone = 0; stone < now.stones; stone++) {
            int off = now.leastOff(stone, place);
            if (which == NONE || off < least) {
                least = off;
                which = stone;
            }
        }
        return what == 0 ? which : least;
    }

    public int swap() {
        int most = 0;
        int pair = NONE;
        for (int one = 0; one < now.stones; one++) {
            for (int other = one + 1; other < now.stones; other++) {
                int gain = now.gainOfChange(one, other);
                if (gain > most) {
                    most = gain;
                    pair = 100 * one + other;
                }
            }
        }
        return pair;
    }

    public int knocked(int place) {
        return isPlace(place) ? now.fallFrom(place) : BAD;
    }

    public int push(int what) {
        if (!within(what, 0, 1)) {
            return BAD;
        }
        int most = now.fallFrom(0);
        int from = 0;
        for (int place = 1; place < PLACES; place++) {
            int fall = now.fallFrom(place);
            if (fall > most) {
                most = fall;
                from = place;
            }
        }
        return what == 0 ? from : most;
    }

    public int behind(int n, int what) {
        if (!within(n, 0, 100) || !within(what, 0, 2 + PLACES)) {
            return BAD;
        }
        Table then = thoughts.behindDays(now, n);
        switch (what) {
            case 0: return then.picture();
            case 1: return then.matches();
            case 2: return then.laidStones();
            default: return stoneOrNone(then.held[what - 3]);
        }
    }

    public int laid() {
        return thoughts.daysTillLaid(now);
    }

    public int lost(int n, int what) {
        if (!within(n, 0, 60) || !within(what, 0, 1)) {
            return BAD;
        }
        int least = NONE;
        int which = NONE;
        for (int stone = 0; stone < now.stones; stone++) {
            int picture = thoughts.pictureWithout(now, stone, n);
            if (which == NONE || picture < least) {
                least = picture;
                which = stone;
            }
        }
        return what == 0 ? which : least;
    }

    public int seen(int sheet, int what) {
        if (!isSheet(sheet) || !within(what, 0, 1)) {
            return BAD;
        }
        if (sheets[sheet].isMissing()) {
            return NOTHING;
        }
        int least = now.unlike(0, sheets[sheet]);
        int which = 0;
        for (int row = 1; row < ROWS; row++) {
            int unlike = now.unlike(row, sheets[sheet]);
            if (unlike < least) {
                least = unlike;
                which = row;
            }
        }
        return what == 0 ? which : least;
    }

    public int fee() {
        int picture = now.picture();
        Text law = now.law(KEY_FEE);
        return law == null ? picture : law.gives(picture, now.matches(), 0);
    }

    public int fine(int stone) {
        if (!isStone(stone)) {
            return BAD;
        }
        Text law = now.law(KEY_FINE);
        return law == null ? now.lefts[stone] : law.gives(now.lefts[stone], now.rights[stone], now.turned[stone]);
    }

    // ---- texts

    public int feed(int a, int b, int c) {
        if (tape.size + 12 > TAPE) {
            return FULL;
        }
        tape.add(a);
        tape.add(b);
        tape.add(c);
        return tape.size;
    }

    public int trim(int n) {
        if (!within(n, 0, tape.size)) {
            return BAD;
        }
        tape.size = n;
        return n;
    }

    public int text() {
        Text read = reader.readText();
        tape.size = 0;
        if (read == null) {
            return FAULTS - reader.fault;
        }
        if (now.textCount >= TEXTS) {
            return FULL;
        }
        return now.addText(read);
    }

    public int textTold(int text, int what) {
        Text told = now.textAt(text);
        if (told == null || !within(what, 0, 1)) {
            return BAD;
        }
        return what == 0 ? told.key : told.operands;
    }

    public int why(int key) {
        if (!within(key, 0, KEYS - 1)) {
            return BAD;
        }
        return now.laws[key] == EMPTY ? NONE : now.laws[key];
    }

    // ---- sheets, slots

    public int sheet(int sheet, int sort, int n) {
        if (!isSheet(sheet) || !within(sort, MISSING, FLOATS)) {
            return BAD;
        }
        if (sort == MISSING) {
            sheets[sheet].become(MISSING, 0);
            return 0;
        }
        if (n > SHEET_PLACES) {
            return BAD;
        }
        if (n < 0) {
            return SIZE;
        }
        sheets[sheet].become(sort, n);
        return n;
    }

    public int mark(int sheet, int place, int v) {
        if (!isSheet(sheet)) {
            return BAD;
        }
        Sheet marked = sheets[sheet];
        if (marked.isMissing()) {
            return NOTHING;
        }
        if (!within(place, 0, marked.size - 1)) {
            return INDEX;
        }
        if (marked.sort == SHORTS) {
            return v == NONE ? KIND : marked.write(place, (short) v);
        }
        if (v != NONE && !within(v, -MOST_FLOAT, MOST_FLOAT)) {
            return BAD;
        }
        return marked.write(place, v);
    }

    public int pour(int sheet) {
        if (!isSheet(sheet)) {
            return BAD;
        }
        Sheet poured = sheets[sheet];
        if (poured.isMissing()) {
            return NOTHING;
        }
        int otherwise = 0;
        for (int cell = 0; cell < CELLS; cell++) {
            if (poured.isNumber(cell)) {
                int v = clamp(poured.row[cell], 0, MOST_WANT);
                otherwise += v == now.wants[cell] ? 0 : 1;
                now.wants[cell] = v;
            }
        }
        return otherwise;
    }

    public int reads(int sheet) {
        if (!isSheet(sheet)) {
            return BAD;
        }
        Sheet read = sheets[sheet];
        if (read.isMissing()) {
            return NOTHING;
        }
        for (int place = 0; place < read.size; place++) {
            if (read.isNumber(place) && (place >= PLACES || read.row[place] != now.held[place])) {
                return place;
            }
        }
        return NONE;
    }

    public int copy(int from, int place, int to, int at, int many) {
        if (!isSheet(from) || !isSheet(to)) {
            return BAD;
        }
        Sheet source = sheets[from];
        Sheet target = sheets[to];
        if (source.isMissing() || target.isMissing()) {
            return NOTHING;
        }
        if (source.sort != target.sort) {
            return KIND;
        }
        if (!source.hasPlaces(place, many) || !target.hasPlaces(at, many)) {
            return INDEX;
        }
        System.arraycopy(source.row, place, target.row, at, many);
        return many;
    }

    public int lay(int slot, int thing, int k) {
        if (!isSlot(slot) || !within(thing, 0, HOLDS_NUMBER)) {
            return BAD;
        }
        if (thing == HOLDS_STONE && !isStone(k) || thing == HOLDS_SHEET && !isSheet(k)) {
            return BAD;
        }
        if (thing == HOLDS_SHEET && sheets[k].isMissing()) {
            return NOTHING;
        }
        Slot laid = slots[slot];
        int was = laid.thing;
        laid.thing = thing;
        if (thing == HOLDS_STONE) {
            laid.takeStone(now.kinds[k], now.lefts[k], now.rights[k]);
        } else if (thing == HOLDS_SHEET) {
            laid.sheet.becomeLike(sheets[k]);
        } else if (thing == HOLDS_NUMBER) {
            laid.number = k;
        }
        return was;
    }

    public int ask(int slot, int kind) {
        if (!isSlot(slot) || !within(kind, 0, KINDS - 1)) {
            return BAD;
        }
        int finding = lookFor(slot, HOLDS_STONE);
        if (finding != 0) {
            return finding;
        }
        Slot asked = slots[slot];
        return Kinds.isOf(asked.kind, kind) ? Kinds.worth(asked.kind, asked.left, asked.right) : KIND;
    }

    public int item(int slot, int place) {
        if (!isSlot(slot)) {
            return BAD;
        }
        int finding = lookFor(slot, HOLDS_SHEET);
        if (finding != 0) {
            return finding;
        }
        Sheet row = slots[slot].sheet;
        if (!within(place, 0, row.size - 1)) {
            return INDEX;
        }
        return row.isNumber(place) ? row.row[place] : KIND;
    }

    public int rest(int slot, int n) {
        if (!isSlot(slot)) {
            return BAD;
        }
        int finding = lookFor(slot, HOLDS_NUMBER);
        if (finding != 0) {
            return finding;
        }
        return n == 0 ? NO : slots[slot].number % n;
    }

    // ---- rows, images

    public int tell(int v) {
        if (waits >= WAITING) {
            return FULL;
        }
        waiting[waits] = v;
        waits++;
        return waits;
    }

    public int check(int n) {
        int told = waits;
        waits = 0;
        if (!within(n, 1, 30)) {
            return BAD;
        }
        if (!kept) {
            return NO;
        }
        int right = thoughts.rightAhead(image, Math.min(n, LAST_DAY - image.day), waiting, told);
        return right == EMPTY ? 0 : 1 + right;
    }

    public int keep() {
        image.become(now);
        kept = true;
        return now.stones;
    }

    public int back() {
        if (!kept) {
            return NO;
        }
        now.become(image);
        return now.stones;
    }

    public int count(int what) {
        switch (what) {
            case 0: return now.stones;
            case 1: return now.day;
            case 2: return now.wind;
            case 3: return now.stones - now.laidStones();
            case 4: return now.textCount;
            case 5: return waits;
            case 6: return tape.size;
            case 7: return now.z;
            default: return BAD;
        }
    }

    private boolean isStone(int stone) {
        return within(stone, 0, now.stones - 1);
    }

    private static boolean isPlace(int place) {
        return within(place, 0, PLACES - 1);
    }

    private static boolean isSheet(int sheet) {
        return within(sheet, 0, SHEETS - 1);
    }

    private static boolean isSlot(int slot) {
        return within(slot, 0, SLOTS - 1);
    }

    private static boolean within(int v, int least, int most) {
        return v >= least && v <= most;
    }

    private static int clamp(int v, int least, int most) {
        return Math.max(least, Math.min(most, v));
    }

    private static int stoneOrNone(int held) {
        return held == EMPTY ? NONE : held;
    }

    /** 0 if the slot holds such a thing, else the finding. */
    private int lookFor(int slot, int thing) {
        if (slots[slot].thing == 0) {
            return NOTHING;
        }
        return slots[slot].thing == thing ? 0 : KIND;
    }

    /** What stones do by their kind. */
    private static final class Kinds {
        static boolean isOf(int kind, int wanted) {
            // no kind stands more than two steps below the top
            int above = ABOVE[kind];
            return kind == wanted || above == wanted || ABOVE[above] == wanted;
        }

        static int dark(int kind, int plain) {
            int ivory = Math.max(0, plain - 10);
            int chalk = 99 - plain;
            switch (kind) {
                case IVORY: return ivory;
                case YELLOW: return (ivory + 60) / 2;
                case CHALK: return chalk;
                case DUSTY: return Math.min(99, chalk + 5);
                case BLANK: return 0;
                default: return plain;
            }
        }

        static int heavy(int kind, int left, int right) {
            int plain = left + right;
            switch (kind) {
                case IVORY: return plain + 2;
                case YELLOW: return 2 * (plain + 2);
                case CHALK:
                case DUSTY: return plain / 2;
                case BLANK: return 1;
                default: return plain;
            }
        }

        static int worth(int kind, int left, int right) {
            int plain = 10 * left + right;
            switch (kind) {
                case IVORY: return plain + 7;
                case YELLOW: return 2 * (plain + 7);
                case CHALK: return 99 - plain;
                case DUSTY: return 99 - plain - 4;
                case BLANK: return 3;
                default: return plain;
            }
        }
    }

    /** All that an image keeps: stones, cells, the wind, the day, z, texts. */
    private static final class Table {
        final int[] kinds = new int[STONES];
        final int[] lefts = new int[STONES];
        final int[] rights = new int[STONES];
        final int[] places = new int[STONES];
        final int[] turned = new int[STONES];
        /** The stone on each place, or EMPTY. */
        final int[] held = new int[PLACES];
        final int[] wants = new int[CELLS];
        /** How dark each stone is in each row, left and right: kept, as days ask for it far more often than it changes. */
        final int[] darks = new int[STONES * ROWS * 2];
        final Text[] texts = new Text[TEXTS];
        /** The text that counts for each key, or EMPTY. */
        final int[] laws = new int[KEYS];
        int stones;
        int textCount;
        int wind;
        int day;
        int z = 1;

        Table() {
            Arrays.fill(held, EMPTY);
            Arrays.fill(wants, 50);
            Arrays.fill(laws, EMPTY);
        }

        void become(Table other) {
            System.arraycopy(other.kinds, 0, kinds, 0, STONES);
            System.arraycopy(other.lefts, 0, lefts, 0, STONES);
            System.arraycopy(other.rights, 0, rights, 0, STONES);
            System.arraycopy(other.places, 0, places, 0, STONES);
            System.arraycopy(other.turned, 0, turned, 0, STONES);
            System.arraycopy(other.held, 0, held, 0, PLACES);
            System.arraycopy(other.wants, 0, wants, 0, CELLS);
            System.arraycopy(other.darks, 0, darks, 0, STONES * ROWS * 2);
            System.arraycopy(other.laws, 0, laws, 0, KEYS);
            for (int i = 0; i < TEXTS; i++) {
                texts[i] = other.texts[i];
            }
            stones = other.stones;
            textCount = other.textCount;
            wind = other.wind;
            day = other.day;
            z = other.z;
        }

        int addStone(int kind, int left, int right) {
            int stone = stones;
            stones++;
            kinds[stone] = kind;
            lefts[stone] = left;
            rights[stone] = right;
            places[stone] = BOX;
            turned[stone] = 0;
            darken(stone);
            return stone;
        }

        void drawStone() {
            int kind = draw() % KINDS;
            int left = draw() % (MOST_SPOTS + 1);
            int right = draw() % (MOST_SPOTS + 1);
            addStone(kind, left, right);
        }

        int draw() {
            z = z * 1103515245 + 12345;
            return z >>> 8;
        }

        Text textAt(int number) {
            return within(number, 0, textCount - 1) ? texts[number] : null;
        }

        /** The text that counts for a key, or null. */
        Text law(int key) {
            return textAt(laws[key]);
        }

        int addText(Text text) {
            int number = textCount;
            textCount++;
            texts[number] = text;
            laws[text.key] = number;
            if (text.key == KEY_DARK) {
                for (int stone = 0; stone < stones; stone++) {
                    darken(stone);
                }
            }
            return number;
        }

        /** Works out anew how dark a stone is; due when its kind or the law changes. */
        void darken(int stone) {
            Text law = law(KEY_DARK);
            int heavy = heavy(stone);
            for (int row = 0; row < ROWS; row++) {
                darks[darkAt(stone, row, 0)] = darkOf(law, kinds[stone], lefts[stone], row, heavy);
                darks[darkAt(stone, row, 1)] = darkOf(law, kinds[stone], rights[stone], row, heavy);
            }
        }

        static int darkOf(Text law, int kind, int spots, int row, int heavy) {
            int plain = law == null ? 15 * spots : law.gives(spots, row, heavy);
            return Kinds.dark(kind, clamp(plain, 0, 99));
        }

        static int darkAt(int stone, int row, int side) {
            return (stone * ROWS + row) * 2 + side;
        }

        int heavy(int stone) {
            return Kinds.heavy(kinds[stone], lefts[stone], rights[stone]);
        }

        int spots(int stone, int half) {
            return half == turned[stone] ? lefts[stone] : rights[stone];
        }

        int offAt(int stone, int place, int turn) {
            int row = place / IN_A_ROW;
            int first = darks[darkAt(stone, row, turn)] - wants[2 * place];
            int second = darks[darkAt(stone, row, 1 - turn)] - wants[2 * place + 1];
            return Math.abs(first) + Math.abs(second);
        }

        int leastOff(int stone, int place) {
            return Math.min(offAt(stone, place, 0), offAt(stone, place, 1));
        }

        boolean isLaid(int stone) {
            return places[stone] < PLACES;
        }

        /** To a place that holds nothing (or this stone), to the box, or out of the game. */
        void moveTo(int stone, int place) {
            if (isLaid(stone)) {
                held[places[stone]] = EMPTY;
            }
            places[stone] = place;
            if (place < PLACES) {
                held[place] = stone;
            }
        }

        int picture() {
            int off = 0;
            for (int place = 0; place < PLACES; place++) {
                int stone = held[place];
                off += stone == EMPTY ? 2 * BARE_CELL : offAt(stone, place, turned[stone]);
            }
            return off;
        }

        int matches() {
            int matches = 0;
            for (int place = 0; place + 1 < PLACES; place++) {
                boolean inOneRow = (place + 1) % IN_A_ROW != 0;
                if (inOneRow && meet(held[place], held[place + 1])) {
                    matches++;
                }
            }
            return matches;
        }

        boolean meet(int one, int next) {
            return one != EMPTY && next != EMPTY && spots(one, 1) == spots(next, 0);
        }

        int laidStones() {
            return Integer.bitCount(placesHeld());
        }

        int placesHeld() {
            int set = 0;
            for (int place = 0; place < PLACES; place++) {
                if (held[place] != EMPTY) {
                    set |= 1 << place;
                }
            }
            return set;
        }

        void passDays(int n) {
            for (int i = 0; i < n; i++) {
                passDay();
            }
        }

        void passDay() {
            int place = firstEmptyIn(draw() % ROWS);
            if (place != EMPTY) {
                layBestAt(place);
            }
            if (draw() % 100 < wind) {
                turnAt(draw() % PLACES);
            }
            day++;
        }

        int firstEmptyIn(int row) {
            int first = row * IN_A_ROW;
            for (int place = first; place < first + IN_A_ROW; place++) {
                if (held[place] == EMPTY) {
                    return place;
                }
            }
            return EMPTY;
        }

        void layBestAt(int place) {
            int least = 0;
            int which = EMPTY;
            int way = 0;
            for (int stone = 0; stone < stones; stone++) {
                if (places[stone] != BOX) {
                    continue;
                }
                for (int turn = 0; turn < 2; turn++) {
                    int off = offAt(stone, place, turn);
                    if (which == EMPTY || off < least) {
                        least = off;
                        which = stone;
                        way = turn;
                    }
                }
            }
            if (which != EMPTY) {
                moveTo(which, place);
                turned[which] = way;
            }
        }

        void turnAt(int place) {
            int stone = held[place];
            if (stone != EMPTY) {
                turned[stone] = 1 - turned[stone];
            }
        }

        /** By how much the picture would be less if two stones changed places (0 if one isn't laid). */
        int gainOfChange(int one, int other) {
            if (!isLaid(one) || !isLaid(other)) {
                return 0;
            }
            int is = offAt(one, places[one], turned[one]) + offAt(other, places[other], turned[other]);
            int would = offAt(one, places[other], turned[one]) + offAt(other, places[one], turned[other]);
            return is - would;
        }

        int fallFrom(int place) {
            int fallen = 0;
            int pushing = 0;
            for (int p = place; p < PLACES; p++) {
                if (held[p] == EMPTY) {
                    return fallen;
                }
                int heavy = heavy(held[p]);
                if (fallen > 0 && heavy > 2 * pushing) {
                    return fallen;
                }
                pushing = heavy;
                fallen++;
            }
            return fallen;
        }

        /** How far a row as it is laid and the first numbers of a sheet differ. */
        int unlike(int row, Sheet sheet) {
            int differences = 0;
            for (int i = 0; i < CELLS_IN_A_ROW; i++) {
                if (sheet.isNumber(i)) {
                    differences += Math.abs(darkOfCell(row * CELLS_IN_A_ROW + i) - sheet.row[i]);
                }
            }
            return differences;
        }

        int darkOfCell(int cell) {
            int place = cell / 2;
            int stone = held[place];
            if (stone == EMPTY) {
                return 0;
            }
            int side = cell % 2 == turned[stone] ? 0 : 1;
            return darks[darkAt(stone, place / IN_A_ROW, side)];
        }
    }

    /** What is only thought, on a table of its own. */
    private static final class Thoughts {
        private static final int NEVER = 1 << 24;
        /** Above every stone's number, so that a sum of OFF and a stone fit into one number, OFF first. */
        private static final int SCALE = 16;

        private final Table then = new Table();
        private final int[] ways = new int[1 << MOST_FIRST_PLACES];
        private final int[] offs = new int[MOST_FIRST_PLACES];

        Table behindDays(Table now, int n) {
            then.become(now);
            then.passDays(n);
            return then;
        }

        int daysTillLaid(Table now) {
            then.become(now);
            for (int n = 0; n <= MOST_LAID_DAYS; n++) {
                int laid = then.laidStones();
                if (laid == PLACES || laid == then.stones) {
                    return n;
                }
                then.passDay();
            }
            return NONE;
        }

        int pictureWithout(Table now, int stone, int n) {
            then.become(now);
            then.moveTo(stone, GONE);
            then.passDays(n);
            return then.picture();
        }

        /** How many numbers are right ahead of the first wrong, missing or needless one; EMPTY if all are as due. */
        int rightAhead(Table image, int days, int[] numbers, int many) {
            then.become(image);
            for (int i = 0; i < 2 * days; i++) {
                if (i % 2 == 0) {
                    then.passDay();
                }
                int due = i % 2 == 0 ? then.picture() : then.matches();
                if (i >= many || numbers[i] != due) {
                    return i;
                }
            }
            return many > 2 * days ? 2 * days : EMPTY;
        }

        int bestLaying(Table now, int m, int what) {
            Arrays.fill(ways, NEVER);
            ways[0] = 0;
            for (int stone = 0; stone < now.stones; stone++) {
                if (now.places[stone] == BOX || now.places[stone] < m) {
                    offerStone(now, stone, m);
                }
            }
            int least = ways[(1 << m) - 1];
            if (least >= NEVER) {
                return NONE;
            }
            return what == 0 ? least / SCALE : least % SCALE;
        }

        /** ways[set]: the least by which the stones offered so far can fill the set of places. */
        private void offerStone(Table now, int stone, int m) {
            for (int place = 0; place < m; place++) {
                offs[place] = SCALE * now.leastOff(stone, place) + (place == 0 ? stone : 0);
            }
            // greater sets first: the lesser ones must not hold this stone yet
            for (int set = (1 << m) - 1; set > 0; set--) {
                for (int place = 0; place < m; place++) {
                    if ((set >> place & 1) != 0) {
                        ways[set] = Math.min(ways[set], ways[set - (1 << place)] + offs[place]);
                    }
                }
            }
        }
    }

    /** A row of shorts or of floats, or missing. Floats are whole numbers, so ints hold them; NONE is no number. */
    private static final class Sheet {
        final int[] row = new int[SHEET_PLACES];
        int sort = MISSING;
        int size;

        boolean isMissing() {
            return sort == MISSING;
        }

        void become(int newSort, int newSize) {
            sort = newSort;
            size = newSize;
            Arrays.fill(row, 0);
        }

        void becomeLike(Sheet other) {
            sort = other.sort;
            size = other.size;
            System.arraycopy(other.row, 0, row, 0, SHEET_PLACES);
        }

        int write(int place, int v) {
            row[place] = v;
            return 1;
        }

        boolean isNumber(int place) {
            return within(place, 0, size - 1) && row[place] != NONE;
        }

        boolean hasPlaces(int place, int many) {
            // no sum of the two: it might wrap
            return within(place, 0, size) && within(many, 0, size - place);
        }
    }

    /** What a slot holds, as it was when it was laid there. */
    private static final class Slot {
        final Sheet sheet = new Sheet();
        int thing;
        int kind;
        int left;
        int right;
        int number;

        void takeStone(int itsKind, int itsLeft, int itsRight) {
            kind = itsKind;
            left = itsLeft;
            right = itsRight;
        }
    }

    /** The bytes that have come and no text has used yet. */
    private static final class Tape {
        final int[] bytes = new int[TAPE];
        int size;

        void add(int four) {
            for (int shift = 24; shift >= 0 && size < TAPE; shift -= 8) {
                bytes[size] = four >>> shift & 255;
                size++;
            }
        }
    }

    /** A law, its signs behind what they join, so that it is worked out in one go from left to right. */
    private static final class Text {
        static final int NUMBER = 0;
        static final int NAME = 1;

        final int key;
        final int operands;
        private final int[] signs;
        private final int[] values;
        /** As deep as there are numbers and names: nothing else makes it grow. */
        private final int[] stack;

        Text(int key, int operands, int[] signs, int[] values) {
            this.key = key;
            this.operands = operands;
            this.signs = signs;
            this.values = values;
            this.stack = new int[operands];
        }

        /** The reader sees to it that the stack is never short nor full; it is looked at all the same. */
        int gives(int first, int second, int third) {
            int top = 0;
            for (int i = 0; i < signs.length && i < values.length; i++) {
                if (signs[i] == NUMBER || signs[i] == NAME) {
                    if (top < stack.length) {
                        stack[top] = signs[i] == NUMBER ? values[i] : named(values[i], first, second, third);
                        top++;
                    }
                } else if (signs[i] == '!') {
                    if (top > 0) {
                        stack[top - 1] = truth(stack[top - 1] == 0);
                    }
                } else if (top > 1) {
                    top--;
                    stack[top - 1] = joined(signs[i], stack[top - 1], stack[top]);
                }
            }
            return top > 0 ? stack[0] : 0;
        }

        private static int named(int name, int first, int second, int third) {
            return name == 0 ? first : name == 1 ? second : third;
        }

        private static int joined(int sign, int a, int b) {
            switch (sign) {
                case '+': return a + b;
                case '-': return a - b;
                case '*': return a * b;
                case '/': return b == 0 ? 0 : a / b;
                case '<': return truth(a < b);
                case '=': return truth(a == b);
                case '>': return truth(a > b);
                case '&': return truth(a != 0 && b != 0);
                default: return truth(a != 0 || b != 0);
            }
        }

        private static int truth(boolean is) {
            return is ? 1 : 0;
        }
    }

    /** Reads the tape as a text, word by word and sign by sign, or finds the fault. */
    private static final class Reader {
        private static final int END = 0;
        private static final int LETTERS = 1;
        private static final int DIGITS = 2;
        private static final int SIGN = 3;
        private static final int MOST_OPEN = 8;
        private static final int MOST_DIGITS = 4;
        private static final int TEST = 2;
        private static final int PIECE = 5;

        int fault;
        private final Tape tape;
        private final int[] signs = new int[TAPE];
        private final int[] values = new int[TAPE];
        private int length;
        private int operands;
        private String names = "";
        /** The word or sign at hand: its class, its first byte, the place behind it. */
        private int sort;
        private int start;
        private int stop;
        private boolean lacksBlank;

        Reader(Tape tape) {
            this.tape = tape;
        }

        /** The text, or null with the fault told. */
        Text readText() {
            begin();
            int key = keyAtHand();
            if (key == EMPTY) {
                fault = start;
                return null;
            }
            names = key == KEY_DARK ? "srk" : key == KEY_FEE ? "pm" : "lrt";
            step();
            readLevel(0, 0, 0);
            if (fault == EMPTY && sort != END) {
                fault = start;
            }
            if (fault != EMPTY) {
                return null;
            }
            return new Text(key, operands, Arrays.copyOf(signs, length), Arrays.copyOf(values, length));
        }

        private void begin() {
            fault = EMPTY;
            length = 0;
            operands = 0;
            sort = SIGN;
            stop = 0;
            step();
        }

        private int keyAtHand() {
            if (wordIs("dark")) {
                return KEY_DARK;
            }
            if (wordIs("fee")) {
                return KEY_FEE;
            }
            return wordIs("fine") ? KEY_FINE : EMPTY;
        }

        private boolean wordIs(String word) {
            if (sort != LETTERS || stop - start != word.length()) {
                return false;
            }
            for (int i = 0; i < word.length(); i++) {
                if (tape.bytes[start + i] != word.charAt(i)) {
                    return false;
                }
            }
            return true;
        }

        /** Goes on to the next word or sign. */
        private void step() {
            int behind = stop;
            boolean wasWord = sort == LETTERS || sort == DIGITS;
            start = stop;
            while (start < tape.size && tape.bytes[start] == ' ') {
                start++;
            }
            sort = sortAt(start);
            stop = sort == END ? start : start + 1;
            if (sort == LETTERS || sort == DIGITS) {
                while (stop < tape.size && sortAt(stop) == sort) {
                    stop++;
                }
            }
            lacksBlank = wasWord && start == behind;
        }

        private int sortAt(int place) {
            if (place >= tape.size) {
                return END;
            }
            int letter = tape.bytes[place];
            if (letter >= 'a' && letter <= 'z') {
                return LETTERS;
            }
            return letter >= '0' && letter <= '9' ? DIGITS : SIGN;
        }

        /** The sign at hand; 0 (which no law has) for a word or the end. */
        private int signAtHand() {
            return sort == SIGN && start < tape.size ? tape.bytes[start] : 0;
        }

        /** What stands on a level of binding: 0 OR, 1 AND, 2 TEST, 3 SUM, 4 TERM, 5 PIECE; open and nots: how many ( and ! are. */
        private void readLevel(int level, int open, int nots) {
            if (level >= PIECE) {
                readPiece(open, nots);
                return;
            }
            readLevel(level + 1, open, nots);
            int most = level == TEST ? 1 : TAPE;
            for (int i = 0; i < most && fault == EMPTY && levelOf(signAtHand()) == level; i++) {
                int sign = signAtHand();
                step();
                readLevel(level + 1, open, nots);
                emit(sign, 0);
            }
        }

        /** The level whose parts a sign joins; EMPTY for a sign that joins none. */
        private static int levelOf(int sign) {
            switch (sign) {
                case '|': return 0;
                case '&': return 1;
                case '<':
                case '=':
                case '>': return TEST;
                case '+':
                case '-': return 3;
                case '*':
                case '/': return 4;
                default: return EMPTY;
            }
        }

        private void readPiece(int open, int nots) {
            int sign = signAtHand();
            if (sign == '!' && nots < MOST_OPEN) {
                step();
                readPiece(open, nots + 1);
                emit('!', 0);
            } else if (sign == '(' && open < MOST_OPEN) {
                step();
                readLevel(0, open + 1, nots);
                close();
            } else {
                readOperand();
            }
        }

        private void close() {
            if (fault != EMPTY) {
                return;
            }
            if (signAtHand() == ')') {
                step();
            } else {
                fault = start;
            }
        }

        private void readOperand() {
            if (lacksBlank) {
                fault = start;
            } else if (sort == DIGITS && stop - start <= MOST_DIGITS) {
                emit(Text.NUMBER, numberAtHand());
                operands++;
                step();
            } else if (sort == LETTERS && stop - start == 1 && nameAtHand() != EMPTY) {
                emit(Text.NAME, nameAtHand());
                operands++;
                step();
            } else {
                fault = start;
            }
        }

        private int numberAtHand() {
            int number = 0;
            for (int i = start; i < stop; i++) {
                number = 10 * number + tape.bytes[i] - '0';
            }
            return number;
        }

        private int nameAtHand() {
            return names.indexOf((char) tape.bytes[start]);
        }

        private void emit(int sign, int value) {
            if (length < TAPE) {
                signs[length] = sign;
                values[length] = value;
                length++;
            }
        }
    }
}
