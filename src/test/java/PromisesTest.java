/** For each promise of the document runs on new objects, with answers worked out by hand from its words. */
public final class PromisesTest {
    private static final int BAD = DominoKing.BAD;
    private static final int NO = DominoKing.NO;
    private static final int FULL = DominoKing.FULL;
    private static final int NONE = DominoKing.NONE;
    private static final int NOTHING = DominoKing.NOTHING;
    private static final int KIND = DominoKing.KIND;
    private static final int INDEX = DominoKing.INDEX;
    private static final int SIZE = DominoKing.SIZE;
    private static final int LEAST = Integer.MIN_VALUE;
    private static final int MOST = Integer.MAX_VALUE;

    private static int wrong = 0;
    private static int promise = 0;

    private static void due(String call, int got, int want) {
        if (got != want) {
            wrong++;
            System.out.println("promise " + promise + ": " + call + " answered " + got + ", due is " + want);
        }
    }

    /** Brings a text to an empty tape, byte by byte. */
    private static void type(DominoKing x, String text) {
        StringBuilder padded = new StringBuilder(text);
        while (padded.length() % 12 != 0 || padded.length() == 0) {
            padded.append(' ');
        }
        for (int i = 0; i < padded.length(); i += 12) {
            x.feed(four(padded, i), four(padded, i + 4), four(padded, i + 8));
        }
        x.trim(text.length());
    }

    private static int four(CharSequence s, int i) {
        return s.charAt(i) << 24 | s.charAt(i + 1) << 16 | s.charAt(i + 2) << 8 | s.charAt(i + 3);
    }

    private static int textOf(DominoKing x, String text) {
        type(x, text);
        return x.text();
    }

    private static int feeOf(String e) {
        DominoKing x = new DominoKing();
        due("text fee " + e, textOf(x, "fee " + e), 0);
        return x.fee();
    }

    private static int faultOf(String text) {
        DominoKing x = new DominoKing();
        type(x, text);
        int answer = x.text();
        due("bytes behind " + text, x.count(6), 0);
        return answer;
    }

    private static DominoKing sixKinds() {
        DominoKing x = new DominoKing();
        for (int kind = 0; kind < 6; kind++) {
            x.stone(kind, 3, 4);
        }
        return x;
    }

    /** The draw that comes next from a z, by the document's words. */
    private static int next(int z) {
        return z * 1103515245 + 12345;
    }

    /** A z whose next draw has this rest by that number. */
    private static int zFor(int rest, int by) {
        for (int z = 0; z < 1000000; z++) {
            if ((next(z) >>> 8) % by == rest) {
                return z;
            }
        }
        return 0;
    }

    private static void aNewObject() {
        promise = 1;
        DominoKing x = new DominoKing();
        int[] counts = {0, 0, 0, 0, 0, 0, 0, 1};
        for (int what = 0; what < 8; what++) {
            due("count " + what, x.count(what), counts[what]);
        }
        for (int place = 0; place < 12; place++) {
            due("at " + place, x.at(place), NONE);
        }
        for (int cell = 0; cell < 24; cell++) {
            due("want " + cell, x.want(cell, 50), 50);
        }
        due("wind", x.wind(0), 0);
        for (int i = 0; i < 4; i++) {
            due("pour " + i, x.pour(i), NOTHING);
        }
        for (int i = 0; i < 5; i++) {
            due("rest " + i, x.rest(i, 1), NOTHING);
        }
        for (int key = 0; key < 3; key++) {
            due("why " + key, x.why(key), NONE);
        }
        due("back", x.back(), NO);
    }

    private static void stone() {
        promise = 2;
        DominoKing x = new DominoKing();
        due("first", x.stone(5, 6, 0), 0);
        due("second", x.stone(0, 0, 6), 1);
        due("at", x.told(1, 3), 12);
        due("turned", x.told(1, 4), 0);
        int[][] bad = {{-1, 0, 0}, {6, 0, 0}, {0, -1, 0}, {0, 7, 0}, {0, 0, -1}, {0, 0, 7}, {LEAST, 0, 0}, {0, MOST, 0}};
        for (int[] b : bad) {
            due("bad", x.stone(b[0], b[1], b[2]), BAD);
        }
        due("count", x.count(0), 2);
        for (int i = 2; i < 12; i++) {
            due("more", x.stone(1, 1, 1), i);
        }
        due("full", x.stone(1, 1, 1), FULL);
        due("bad ahead of full", x.stone(6, 1, 1), BAD);
        due("count", x.count(0), 12);
    }

    private static void told() {
        promise = 3;
        DominoKing x = sixKinds();
        int[] heavy = {7, 9, 3, 18, 3, 1};
        int[] worth = {34, 41, 65, 82, 61, 3};
        for (int kind = 0; kind < 6; kind++) {
            due("kind", x.told(kind, 0), kind);
            due("left", x.told(kind, 1), 3);
            due("right", x.told(kind, 2), 4);
            due("heavy", x.told(kind, 5), heavy[kind]);
            due("worth", x.told(kind, 6), worth[kind]);
        }
        x.put(2, 11, 1);
        due("at", x.told(2, 3), 11);
        due("turned", x.told(2, 4), 1);
        due("left of a turned one", x.told(2, 1), 3);
        due("stone -1", x.told(-1, 0), BAD);
        due("stone 6", x.told(6, 0), BAD);
        due("what -1", x.told(0, -1), BAD);
        due("what 7", x.told(0, 7), BAD);
    }

    private static void off() {
        promise = 4;
        DominoKing x = sixKinds();
        x.want(14, 0);
        x.want(15, 99);
        // dark of 3, 4 spots: 45 60, 35 50, 54 39, 47 55, 59 44, 0 0
        int[] straight = {45 + 39, 35 + 49, 54 + 60, 47 + 44, 59 + 55, 99};
        int[] turned = {60 + 54, 50 + 64, 39 + 45, 55 + 52, 44 + 40, 99};
        for (int kind = 0; kind < 6; kind++) {
            due("off " + kind, x.off(kind, 7, 0), straight[kind]);
            due("off turned " + kind, x.off(kind, 7, 1), turned[kind]);
        }
        due("dusty at 99", dustyAtZero(), 99 + 94);
        due("ivory at 0", ivoryAtZero(), 0 + 5);
        due("bad", x.off(6, 0, 0), BAD);
        due("bad", x.off(-1, 0, 0), BAD);
        due("bad", x.off(0, 12, 0), BAD);
        due("bad", x.off(0, -1, 0), BAD);
        due("bad", x.off(0, 0, 2), BAD);
        due("bad", x.off(0, 0, -1), BAD);
    }

    private static int dustyAtZero() {
        DominoKing x = new DominoKing();
        x.stone(4, 0, 0);
        x.want(0, 0);
        x.want(1, 5);
        return x.off(0, 0, 0);
    }

    private static int ivoryAtZero() {
        DominoKing x = new DominoKing();
        x.stone(1, 0, 1);
        x.want(0, 0);
        x.want(1, 0);
        return x.off(0, 0, 0);
    }

    private static void as() {
        promise = 5;
        DominoKing x = sixKinds();
        x.put(3, 0, 1);
        String[] over = {"0", "01", "02", "013", "024", "05"};
        for (int stone = 0; stone < 6; stone++) {
            for (int kind = 0; kind < 6; kind++) {
                boolean is = over[stone].indexOf('0' + kind) >= 0;
                due("as " + stone + " " + kind, x.as(stone, kind), is ? 3 : KIND);
            }
        }
        due("bad", x.as(6, 0), BAD);
        due("bad", x.as(-1, 0), BAD);
        due("bad", x.as(0, 6), BAD);
        due("bad", x.as(0, -1), BAD);
    }

    private static void turns() {
        promise = 6;
        DominoKing x = new DominoKing();
        x.stone(2, 6, 6);
        due("dark", x.off(0, 0, 0), 82);
        due("turns", x.turns(0, 5), 2);
        due("dark", x.off(0, 0, 0), 100);
        due("turns", x.turns(0, 5), 5);
        due("turns", x.turns(0, 0), 5);
        due("dark", x.off(0, 0, 0), 80);
        due("turns", x.turns(0, 5), 0);
        due("kind", x.told(0, 0), 5);
        due("bad", x.turns(0, 6), BAD);
        due("bad", x.turns(0, -1), BAD);
        due("bad", x.turns(1, 0), BAD);
        due("bad", x.turns(-1, 0), BAD);
        due("kind", x.told(0, 0), 5);
    }

    private static void put() {
        promise = 7;
        DominoKing x = sixKinds();
        due("put", x.put(0, 11, 1), 12);
        due("again", x.put(0, 11, 0), 11);
        due("turned", x.told(0, 4), 0);
        due("held", x.put(1, 11, 0), NO);
        due("on", x.put(0, 3, 1), 11);
        due("left empty", x.at(11), NONE);
        due("at", x.at(3), 0);
        due("bad ahead of no", x.put(1, 3, 2), BAD);
        due("bad", x.put(6, 0, 0), BAD);
        due("bad", x.put(-1, 0, 0), BAD);
        due("bad", x.put(1, 12, 0), BAD);
        due("bad", x.put(1, -1, 0), BAD);
        due("bad", x.put(1, 0, -1), BAD);
        due("in the box", x.told(1, 3), 12);
    }

    private static void box() {
        promise = 8;
        DominoKing x = sixKinds();
        x.put(4, 5, 1);
        due("box", x.box(4), 5);
        due("box", x.box(4), 12);
        due("turned as it was", x.told(4, 4), 1);
        due("empty", x.at(5), NONE);
        due("room", x.put(1, 5, 0), 12);
        due("bad", x.box(6), BAD);
        due("bad", x.box(-1), BAD);
    }

    private static void want() {
        promise = 9;
        DominoKing x = new DominoKing();
        due("want", x.want(23, 99), 50);
        due("want", x.want(23, 0), 99);
        due("bad", x.want(23, 100), BAD);
        due("bad", x.want(23, -1), BAD);
        due("bad", x.want(24, 1), BAD);
        due("bad", x.want(-1, 1), BAD);
        due("want", x.want(23, 1), 0);
    }

    private static void wind() {
        promise = 10;
        DominoKing x = new DominoKing();
        due("wind", x.wind(100), 0);
        due("wind", x.wind(7), 100);
        due("bad", x.wind(101), BAD);
        due("bad", x.wind(-1), BAD);
        due("count", x.count(2), 7);
    }

    private static void deal() {
        promise = 11;
        DominoKing x = new DominoKing();
        x.seed(77);
        due("deal", x.deal(3), 3);
        int z = 77;
        for (int i = 0; i < 3; i++) {
            for (int what = 0; what < 3; what++) {
                z = next(z);
                due("drawn " + i + " " + what, x.told(i, what), (z >>> 8) % (what == 0 ? 6 : 7));
            }
        }
        due("z", x.count(7), z);
        due("bad", x.deal(0), BAD);
        due("bad", x.deal(13), BAD);
        due("bad", x.deal(LEAST), BAD);
        due("z", x.count(7), z);
        due("room", x.deal(12), 9);
        for (int i = 0; i < 27; i++) {
            z = next(z);
        }
        due("z", x.count(7), z);
        due("no room", x.deal(1), 0);
        due("z", x.count(7), z);
    }

    private static void seed() {
        promise = 12;
        DominoKing x = new DominoKing();
        due("seed", x.seed(LEAST), 1);
        due("seed", x.seed(BAD), LEAST);
        due("seed", x.seed(0), BAD);
    }

    private static void days() {
        promise = 13;
        DominoKing x = new DominoKing();
        x.stone(0, 1, 6);
        x.stone(0, 6, 1);
        x.stone(0, 3, 3);
        x.want(12, 90);
        x.want(13, 15);
        x.seed(zFor(2, 4));
        due("a day", x.days(1), 1);
        due("the least number, turned", x.at(6), 0);
        due("turned", x.told(0, 4), 1);
        due("two draws", x.count(7), next(next(zFor(2, 4))));
        due("the day", x.count(1), 1);
        x.seed(zFor(2, 4));
        x.days(1);
        due("the next of the row", x.at(7), 2);
        due("not turned ahead", x.told(2, 4), 0);
        x.box(0);
        x.put(1, 8, 0);
        x.seed(zFor(2, 4));
        due("the first empty one", x.days(1), 1);
        due("the first empty one", x.at(6), 0);
        x.box(0);
        x.put(0, 0, 0);
        x.stone(5, 0, 0);
        x.put(3, 6, 0);
        x.seed(zFor(2, 4));
        due("a full row", x.days(1), 0);
        due("bad", x.days(0), BAD);
        due("bad", x.days(101), BAD);
        due("bad", x.days(-1), BAD);
        due("bad", x.days(MOST), BAD);
        theWind();
        theLastDay();
    }

    private static void theWind() {
        DominoKing x = new DominoKing();
        for (int place = 0; place < 12; place++) {
            x.stone(0, 1, 2);
            x.put(place, place, 0);
        }
        x.wind(100);
        int z = 5;
        x.seed(z);
        x.days(1);
        int which = (next(next(next(z))) >>> 8) % 12;
        for (int place = 0; place < 12; place++) {
            due("turned " + place, x.told(place, 4), place == which ? 1 : 0);
        }
        due("three draws", x.count(7), next(next(next(z))));
        x.seed(z);
        x.days(1);
        due("turned back", x.told(which, 4), 0);
        x.box(which);
        x.put(which, which, 0);
        int rest = (next(next(z)) >>> 8) % 100;
        x.wind(rest);
        x.seed(z);
        x.days(1);
        due("not below", x.told(which, 4), 0);
        due("two draws", x.count(7), next(next(z)));
        x.wind(rest + 1);
        x.seed(z);
        x.days(1);
        due("below", x.told(which, 4), 1);
        x.wind(0);
        x.seed(z);
        x.days(1);
        due("no wind", x.told(which, 4), 1);
        DominoKing bare = new DominoKing();
        bare.wind(100);
        bare.seed(z);
        due("nothing there", bare.days(1), 0);
        due("three draws", bare.count(7), next(next(next(z))));
    }

    private static void theLastDay() {
        DominoKing x = new DominoKing();
        for (int i = 0; i < 99; i++) {
            x.days(100);
        }
        due("the day", x.count(1), 9900);
        x.days(98);
        due("the day", x.count(1), 9998);
        int z = x.count(7);
        due("the last", x.days(2), 0);
        due("the day", x.count(1), 9999);
        due("one day", x.count(7), next(next(z)));
        due("no more", x.days(100), 0);
        due("no draw", x.count(7), next(next(z)));
        x.deal(12);
        x.keep();
        due("none told", x.check(30), 0);
        x.tell(1);
        due("one too many", x.check(30), 1);
        due("behind goes on", x.behind(100, 2) > 0 ? 1 : 0, 1);
        due("laid goes on", x.laid() > 0 ? 1 : 0, 1);
        due("lost goes on", x.lost(60, 1) < 2376 ? 1 : 0, 1);
    }

    private static void king() {
        promise = 14;
        DominoKing x = new DominoKing();
        x.stone(0, 3, 4);
        x.stone(0, 4, 2);
        x.stone(0, 2, 2);
        x.stone(0, 2, 0);
        due("nothing", x.king(0), 24 * 99);
        x.put(0, 0, 0);
        x.put(1, 1, 0);
        x.put(2, 2, 0);
        x.put(3, 3, 0);
        due("matches, not over the end of a row", x.king(1), 2);
        due("picture", x.king(0), 16 * 99 + 5 + 10 + 10 + 20 + 20 + 20 + 20 + 50);
        due("laid", x.king(2), 4);
        due("set", x.king(3), 15);
        x.box(1);
        x.put(1, 1, 1);
        due("turned", x.king(1), 0);
        x.put(0, 11, 1);
        due("set", x.king(3), 2048 + 14);
        x.box(0);
        x.put(2, 10, 0);
        x.put(1, 9, 0);
        x.put(3, 11, 0);
        due("the last row", x.king(1), 2);
        due("bad", x.king(4), BAD);
        due("bad", x.king(-1), BAD);
    }

    private static void at() {
        promise = 15;
        DominoKing x = sixKinds();
        x.put(5, 11, 0);
        x.put(4, 0, 0);
        due("at", x.at(11), 5);
        due("at", x.at(0), 4);
        due("at", x.at(1), NONE);
        due("bad", x.at(12), BAD);
        due("bad", x.at(-1), BAD);
    }

    private static void best() {
        promise = 16;
        DominoKing x = new DominoKing();
        due("none", x.best(1, 0), NONE);
        x.stone(0, 0, 0);
        x.stone(0, 6, 0);
        x.stone(0, 0, 6);
        for (int cell = 0; cell < 24; cell++) {
            x.want(cell, 0);
        }
        x.want(0, 90);
        x.want(3, 90);
        due("off", x.best(1, 0), 0);
        due("stone", x.best(1, 1), 1);
        due("off", x.best(2, 0), 0);
        due("of several the least", x.best(2, 1), 1);
        due("off", x.best(3, 0), 0);
        due("too few", x.best(4, 1), NONE);
        x.put(1, 11, 0);
        due("it stays there", x.best(2, 0), 90);
        due("of several the least", x.best(2, 1), 0);
        due("too few", x.best(3, 0), NONE);
        x.put(1, 2, 0);
        due("it stays on the third", x.best(2, 0), 90);
        due("it is on the first three", x.best(3, 0), 0);
        x.box(1);
        for (int i = 0; i < 4; i++) {
            x.stone(5, 0, 0);
        }
        due("six", x.best(6, 0), 0);
        due("six", x.best(6, 1), 1);
        x.put(1, 2, 0);
        due("nothing changes", x.at(2), 1);
        int[][] bad = {{0, 0}, {7, 0}, {-1, 0}, {1, 2}, {1, -1}, {MOST, 0}};
        for (int[] b : bad) {
            due("bad", x.best(b[0], b[1]), BAD);
        }
    }

    private static void bestFor() {
        promise = 17;
        DominoKing x = new DominoKing();
        due("none", x.bestFor(11, 0), NONE);
        due("none", x.bestFor(11, 1), NONE);
        x.stone(0, 0, 0);
        x.stone(0, 4, 1);
        x.stone(0, 1, 4);
        x.want(22, 15);
        x.want(23, 62);
        x.put(1, 3, 0);
        due("of all, of several the least", x.bestFor(11, 0), 1);
        due("off", x.bestFor(11, 1), 2);
        due("the first one", x.bestFor(0, 0), 1);
        x.want(0, 0);
        x.want(1, 0);
        due("the first one", x.bestFor(0, 0), 0);
        due("bad", x.bestFor(12, 0), BAD);
        due("bad", x.bestFor(-1, 0), BAD);
        due("bad", x.bestFor(0, 2), BAD);
        due("bad", x.bestFor(0, -1), BAD);
    }

    private static void swap() {
        promise = 18;
        DominoKing x = new DominoKing();
        due("none", x.swap(), NONE);
        for (int i = 0; i < 12; i++) {
            x.stone(0, i == 0 || i == 3 ? 0 : 6, i == 0 || i == 3 ? 0 : 6);
        }
        x.put(3, 0, 0);
        x.put(11, 1, 0);
        due("not less", x.swap(), NONE);
        x.want(0, 90);
        x.want(1, 90);
        x.want(2, 0);
        x.want(3, 0);
        due("swap", x.swap(), 311);
        x.put(0, 2, 0);
        x.want(4, 0);
        x.want(5, 0);
        due("one makes it least", x.swap(), 311);
        x.put(10, 11, 0);
        x.want(22, 0);
        x.want(23, 0);
        due("of several the first", x.swap(), 310);
        x.box(3);
        due("the box is left out", x.swap(), NONE);
        swapTurned();
    }

    private static void swapTurned() {
        DominoKing x = new DominoKing();
        x.stone(0, 0, 6);
        x.stone(0, 0, 6);
        x.want(0, 0);
        x.want(1, 90);
        x.want(2, 90);
        x.want(3, 0);
        x.put(0, 0, 1);
        x.put(1, 1, 0);
        due("each turned as it is", x.swap(), 1);
        x.put(0, 0, 0);
        due("each turned as it is", x.swap(), NONE);
        x.turns(0, 5);
        x.turns(1, 5);
        x.want(0, 0);
        x.want(2, 1);
        due("as much", x.swap(), NONE);
        lessByOne();
    }

    private static void lessByOne() {
        DominoKing x = new DominoKing();
        x.stone(0, 0, 1);
        x.stone(5, 0, 0);
        for (int cell = 0; cell < 24; cell++) {
            x.want(cell, 0);
        }
        textOf(x, "dark r*s");
        x.put(0, 3, 0);
        x.put(1, 0, 0);
        due("less by one", x.swap(), 1);
        x.put(0, 1, 0);
        due("as much", x.swap(), NONE);
    }

    private static void knocked() {
        promise = 19;
        DominoKing x = new DominoKing();
        x.stone(0, 1, 1);
        x.stone(0, 2, 2);
        x.stone(0, 4, 5);
        x.stone(0, 1, 0);
        x.put(0, 1, 0);
        x.put(1, 2, 0);
        x.put(2, 3, 0);
        due("twice falls, over the end of a row; more stands", x.knocked(1), 2);
        due("more than twice", x.knocked(2), 1);
        due("nothing there", x.knocked(0), 0);
        x.put(3, 4, 0);
        due("from here", x.knocked(3), 2);
        x.put(2, 11, 0);
        due("the last", x.knocked(11), 1);
        due("a gap", x.knocked(1), 2);
        x.turns(3, 5);
        x.put(3, 3, 0);
        due("by kind", x.knocked(2), 2);
        due("bad", x.knocked(12), BAD);
        due("bad", x.knocked(-1), BAD);
    }

    private static void push() {
        promise = 20;
        DominoKing x = new DominoKing();
        due("nothing", x.push(0), 0);
        due("nothing", x.push(1), 0);
        x.stone(0, 0, 0);
        x.stone(0, 1, 1);
        x.stone(0, 2, 1);
        x.stone(0, 3, 1);
        x.put(0, 4, 0);
        x.put(1, 5, 0);
        x.put(2, 6, 0);
        due("the place", x.push(0), 5);
        due("how many", x.push(1), 2);
        x.put(1, 1, 0);
        x.put(2, 2, 0);
        due("the second", x.push(0), 1);
        x.put(1, 0, 0);
        x.put(2, 1, 0);
        due("the first", x.push(0), 0);
        x.put(1, 5, 0);
        x.put(2, 6, 0);
        x.put(3, 10, 0);
        due("of several the least", x.push(0), 5);
        x.put(1, 9, 0);
        due("of several the least", x.push(0), 9);
        due("bad", x.push(2), BAD);
        due("bad", x.push(-1), BAD);
    }

    private static void behind() {
        promise = 21;
        for (int n = 0; n <= 100; n += 20) {
            DominoKing x = new DominoKing();
            x.seed(n);
            x.deal(10);
            x.wind(30);
            int[] will = new int[15];
            for (int what = 0; what < 15; what++) {
                will[what] = x.behind(n, what);
            }
            due("nothing changes", x.count(3), 10);
            due("nothing changes", x.count(1), 0);
            if (n > 0) {
                x.days(n);
            }
            for (int what = 0; what < 15; what++) {
                due("behind " + n + " " + what, will[what], what < 3 ? x.king(what) : x.at(what - 3));
            }
        }
        DominoKing x = new DominoKing();
        due("bad", x.behind(-1, 0), BAD);
        due("bad", x.behind(101, 0), BAD);
        due("bad", x.behind(0, 15), BAD);
        due("bad", x.behind(0, -1), BAD);
        due("none", x.behind(0, 14), NONE);
    }

    private static void laid() {
        promise = 22;
        DominoKing x = new DominoKing();
        due("no stones", x.laid(), 0);
        x.seed(9);
        x.deal(12);
        x.wind(50);
        int n = x.laid();
        due("nothing changes", x.king(2), 0);
        x.days(n - 1);
        due("one day ahead", x.count(3) > 0 ? 1 : 0, 1);
        due("one day ahead", x.laid(), 1);
        x.days(1);
        due("then", x.king(2), 12);
        due("laid", x.laid(), 0);
    }

    private static void lost() {
        promise = 23;
        DominoKing x = new DominoKing();
        due("none", x.lost(0, 0), NONE);
        due("none", x.lost(60, 1), NONE);
        x.stone(5, 0, 0);
        x.stone(0, 3, 3);
        x.put(1, 0, 0);
        due("in the box: nothing is lost", x.lost(0, 0), 0);
        due("picture", x.lost(0, 1), 22 * 99 + 10);
        x.put(0, 1, 0);
        due("laid: its place is bare", x.lost(0, 1), 22 * 99 + 10);
        due("nothing changes", x.at(1), 0);
        x.want(2, 0);
        x.want(3, 0);
        due("the blank is right now", x.lost(0, 0), 1);
        x.turns(1, 5);
        x.want(0, 0);
        x.want(1, 0);
        due("of several the least", x.lost(0, 0), 0);
        x.box(0);
        x.box(1);
        x.seed(zFor(0, 4));
        due("the other one is laid", x.lost(1, 1), 22 * 99);
        due("bad", x.lost(-1, 0), BAD);
        due("bad", x.lost(61, 0), BAD);
        due("bad", x.lost(0, 2), BAD);
        due("bad", x.lost(0, -1), BAD);
    }

    private static void seen() {
        promise = 24;
        DominoKing x = new DominoKing();
        x.stone(0, 1, 2);
        x.stone(0, 3, 4);
        x.put(0, 7, 1);
        x.put(1, 11, 0);
        due("missing", x.seen(0, 0), NOTHING);
        x.sheet(0, 0, 0);
        due("no places", x.seen(0, 0), 0);
        due("no places", x.seen(0, 1), 0);
        x.sheet(0, 0, 7);
        x.mark(0, 6, 5000);
        due("the seventh is left out", x.seen(0, 1), 0);
        due("of several the least", x.seen(0, 0), 0);
        x.mark(0, 2, 31);
        x.mark(0, 3, 13);
        due("row", x.seen(0, 0), 2);
        due("signs left out", x.seen(0, 1), 3);
        x.put(0, 3, 0);
        x.sheet(3, 0, 2);
        x.mark(3, 0, 16);
        x.mark(3, 1, 30);
        due("row 1", x.seen(3, 0), 1);
        due("the first place counts", x.seen(3, 1), 1);
        x.put(0, 0, 0);
        due("row 0", x.seen(3, 0), 0);
        x.sheet(1, 1, 6);
        for (int i = 0; i < 4; i++) {
            x.mark(1, i, NONE);
        }
        x.mark(1, 4, -3);
        x.mark(1, 5, 70);
        due("no number is left out", x.seen(1, 0), 3);
        due("from below 0", x.seen(1, 1), 48 + 10);
        due("bad", x.seen(4, 0), BAD);
        due("bad", x.seen(-1, 0), BAD);
        due("bad ahead of nothing", x.seen(2, 2), BAD);
        due("bad", x.seen(0, -1), BAD);
    }

    private static void fee() {
        promise = 25;
        DominoKing x = new DominoKing();
        due("without", x.fee(), 2376);
        x.stone(0, 3, 3);
        x.stone(0, 3, 3);
        x.put(0, 0, 0);
        x.put(1, 1, 0);
        due("text", textOf(x, "fee m*1000+p"), 0);
        due("fee", x.fee(), 1000 + 20 * 99 + 20);
        due("the last counts", textOf(x, "fee 7"), 1);
        due("fee", x.fee(), 7);
    }

    private static void fine() {
        promise = 26;
        DominoKing x = new DominoKing();
        x.stone(4, 2, 5);
        due("without", x.fine(0), 2);
        due("text", textOf(x, "fine l*100+r*10+t"), 0);
        due("fine", x.fine(0), 250);
        x.put(0, 0, 1);
        due("fine of a turned one", x.fine(0), 251);
        due("bad", x.fine(1), BAD);
        due("bad", x.fine(-1), BAD);
    }

    private static void feed() {
        promise = 27;
        DominoKing x = new DominoKing();
        for (int i = 1; i <= 8; i++) {
            due("feed", x.feed(0x20202020, 0x20202020, 0x20202020), 12 * i);
        }
        due("full", x.feed(1, 2, 3), FULL);
        due("count", x.count(6), 96);
        x.trim(85);
        due("full", x.feed(1, 2, 3), FULL);
        x.trim(84);
        due("feed", x.feed(0x66656520, 0x31323334, 0x2a322020), 96);
        due("the highest first", x.text(), 0);
        due("fee", x.fee(), 2468);
        x.feed(0x666565ff, 0, 0);
        due("a byte above 127 is a sign", x.text(), -103);
    }

    private static void trim() {
        promise = 28;
        DominoKing x = new DominoKing();
        due("trim", x.trim(0), 0);
        due("bad", x.trim(1), BAD);
        due("bad", x.trim(-1), BAD);
        type(x, "fee 12345");
        due("bad", x.trim(10), BAD);
        due("trim", x.trim(9), 9);
        due("trim", x.trim(8), 8);
        due("count", x.count(6), 8);
        due("text", x.text(), 0);
        due("fee", x.fee(), 1234);
        due("bad", x.trim(1), BAD);
    }

    private static void text() {
        promise = 29;
        due("empty", faultOf(""), -100);
        due("blanks", faultOf("   "), -103);
        due("key", faultOf("fees 1"), -100);
        due("key", faultOf("  fe 1"), -102);
        due("key", faultOf("12 1"), -100);
        due("key", faultOf("Fee 1"), -100);
        due("key", faultOf("xee 1"), -100);
        due("key", faultOf("finz 1"), -100);
        due("z is a letter", faultOf("fee pz"), -104);
        due("key alone", faultOf("fee"), -103);
        due("key and blanks", faultOf("fee  "), -105);
        due("a blank is needed", faultOf("fee1"), -103);
        due("a blank is needed", faultOf("fee 1p"), -105);
        due("a name of two letters", faultOf("fee pm"), -104);
        due("two names", faultOf("fee p m"), -106);
        due("another key's name", faultOf("fee s"), -104);
        due("another key's name", faultOf("dark p"), -105);
        due("another key's name", faultOf("fine k"), -105);
        due("five digits", faultOf("fee 12345"), -104);
        due("five digits", faultOf("fee 1+00001"), -106);
        due("two tests", faultOf("fee 1<2<3"), -107);
        due("two tests", faultOf("fee 1=2>3"), -107);
        due("no minus ahead", faultOf("fee -1"), -104);
        due("nothing behind a sign", faultOf("fee 1+ "), -107);
        due("two signs", faultOf("fee 1+*2"), -106);
        due("not behind a number", faultOf("fee 1!2"), -105);
        due("open", faultOf("fee (1"), -106);
        due("closed too soon", faultOf("fee ()"), -105);
        due("closed twice", faultOf("fee (1))"), -107);
        due("a sign of none", faultOf("fee 1%2"), -105);
        due("a byte 0", faultOf("fee 1\0"), -105);
        due("key again", faultOf("fee fee"), -104);
        due("eight (", faultOf("fee ((((((((1))))))))"), 0);
        due("nine (", faultOf("fee (((((((((1)))))))))"), -112);
        due("eight (, closed, eight (", faultOf("fee ((((((((1))))))))+((((((((1))))))))"), 0);
        due("eight !", faultOf("fee !!!!!!!!1"), 0);
        due("nine !", faultOf("fee !!!!!!!!!1"), -112);
        due("eight !, twice", faultOf("fee !!!!!!!!1+!!!!!!!!1"), 0);
        due("nine ! over a (", faultOf("fee !!!!(!!!!!1)"), -113);
        due("eight of both", faultOf("fee !(!(!(!(!(!(!(!(1))))))))"), 0);
        due("! behind the ( that is closed", faultOf("fee !!!!!!!(1+!1)+!!!!!!!!1"), 0);
        due("blanks anywhere", faultOf("  dark  ( s+ 1 ) *r   "), 0);
        due("no blank ahead of a sign", faultOf("dark(s)"), 0);
        due("no blank ahead of a sign", faultOf("dark!s"), 0);
        theWorth();
        manyTexts();
        darkTexts();
    }

    private static void theWorth() {
        due("loosest first", feeOf("1+2*3"), 7);
        due("left to right", feeOf("9-3-2"), 4);
        due("left to right", feeOf("100/5*2"), 40);
        due("left to right", feeOf("7/2"), 3);
        due("towards 0", feeOf("(0-7)/2"), -3);
        due("by 0", feeOf("7/0+1"), 1);
        due("brackets", feeOf("(1+2)*3"), 9);
        due("brackets", feeOf("(0|3)+1"), 2);
        due("brackets", feeOf("2*(1&3)"), 2);
        due("brackets", feeOf("9-(3-2)"), 8);
        due("test", feeOf("2<3"), 1);
        due("test", feeOf("3<3"), 0);
        due("test", feeOf("3>2"), 1);
        due("test", feeOf("2>2"), 0);
        due("test", feeOf("2+1=3"), 1);
        due("test", feeOf("2=3"), 0);
        due("and", feeOf("5&0-3"), 1);
        due("and", feeOf("5&0"), 0);
        due("and", feeOf("0&5"), 0);
        due("or", feeOf("0|7"), 1);
        due("or", feeOf("7|0"), 1);
        due("or", feeOf("0|0"), 0);
        due("and ahead of or", feeOf("1|1&0"), 1);
        due("and ahead of or", feeOf("0&1|1"), 1);
        due("test ahead of and", feeOf("2=2&3"), 1);
        due("not binds most", feeOf("!0+1"), 2);
        due("not", feeOf("!5"), 0);
        due("not", feeOf("!!5"), 1);
        due("not", feeOf("!(2<1)"), 1);
        due("wraps", feeOf("9999*9999*99"), 9999 * 9999 * 99);
        due("least by -1", feeOf("(0-2048*1024*1024)/(0-1)"), LEAST);
        due("least by -1", feeOf("2048*1024*1024/(0-1)"), LEAST);
        due("zeros ahead", feeOf("0007"), 7);
    }

    private static void manyTexts() {
        DominoKing x = new DominoKing();
        for (int i = 0; i < 14; i++) {
            due("text", textOf(x, "fee " + i), i);
        }
        due("full", textOf(x, "fee 99"), FULL);
        due("used up", x.count(6), 0);
        due("the fault ahead of full", textOf(x, "fee +"), -104);
        due("fee", x.fee(), 13);
        due("count", x.count(4), 14);
        StringBuilder longest = new StringBuilder("fee 1");
        while (longest.length() < 95) {
            longest.append("+1");
        }
        longest.append(' ');
        x = new DominoKing();
        due("96 bytes", textOf(x, longest.substring(0, 96)), 0);
        due("fee", x.fee(), 46);
        due("numbers", x.textTold(0, 1), 46);
        x = new DominoKing();
        due("96 bytes", textOf(x, longest.substring(0, 95) + "+"), -196);
    }

    private static void darkTexts() {
        DominoKing x = sixKinds();
        for (int cell = 0; cell < 24; cell++) {
            x.want(cell, 0);
        }
        due("text", textOf(x, "dark s*2+r*10+k"), 0);
        // row 2: 26 and 28, and HEAVY 7, 9, 3, 18, 3, 1 of the stone as it is
        int[] off = {33 + 35, 25 + 27, 70 + 68, 47 + 48, 75 + 73, 0};
        for (int kind = 0; kind < 6; kind++) {
            due("off " + kind, x.off(kind, 8, 0), off[kind]);
        }
        due("held at 99", textOf(x, "dark 9999"), 1);
        due("off", x.off(0, 0, 0), 198);
        due("off", x.off(1, 0, 0), 178);
        due("off", x.off(2, 0, 0), 0);
        due("held at 0", textOf(x, "dark 0-1"), 2);
        due("off", x.off(0, 0, 0), 0);
        due("off", x.off(2, 0, 0), 198);
        due("off", x.off(4, 0, 0), 198);
        due("off", x.off(3, 0, 0), 60);
        x.stone(0, 6, 6);
        due("a later stone", x.off(6, 0, 0), 0);
    }

    private static void textTold() {
        promise = 30;
        DominoKing x = new DominoKing();
        textOf(x, "fine 12*(l+!t)");
        textOf(x, "dark s");
        textOf(x, "fee 1|p&m=p");
        textOf(x, "fee )");
        int[] keys = {2, 0, 1};
        int[] many = {3, 1, 4};
        for (int i = 0; i < 3; i++) {
            due("key", x.textTold(i, 0), keys[i]);
            due("many", x.textTold(i, 1), many[i]);
        }
        due("bad", x.textTold(3, 0), BAD);
        due("bad", x.textTold(-1, 0), BAD);
        due("bad", x.textTold(0, 2), BAD);
        due("bad", x.textTold(0, -1), BAD);
    }

    private static void why() {
        promise = 31;
        DominoKing x = new DominoKing();
        textOf(x, "fine 1");
        textOf(x, "dark 1");
        textOf(x, "fine 2");
        textOf(x, "fine +");
        due("dark", x.why(0), 1);
        due("fee", x.why(1), NONE);
        due("fine", x.why(2), 2);
        due("bad", x.why(3), BAD);
        due("bad", x.why(-1), BAD);
    }

    private static void sheet() {
        promise = 32;
        DominoKing x = new DominoKing();
        due("sheet", x.sheet(0, 0, 24), 24);
        due("sheet", x.sheet(3, 1, 0), 0);
        due("there", x.pour(3), 0);
        x.mark(0, 23, 9);
        due("sheet", x.sheet(0, 1, 24), 24);
        x.lay(0, 2, 0);
        due("all 0", x.item(0, 23), 0);
        due("missing", x.sheet(0, -1, 99), 0);
        due("missing", x.sheet(1, -1, LEAST), 0);
        due("missing", x.pour(0), NOTHING);
        due("bad", x.sheet(4, 0, 1), BAD);
        due("bad", x.sheet(-1, 0, 1), BAD);
        due("bad", x.sheet(0, 2, 1), BAD);
        due("bad", x.sheet(0, -2, 1), BAD);
        due("bad", x.sheet(0, 0, 25), BAD);
        due("size", x.sheet(0, 1, -1), SIZE);
        due("size", x.sheet(3, 0, LEAST), SIZE);
        due("bad ahead of size", x.sheet(4, 0, -1), BAD);
        due("bad ahead of size", x.sheet(0, 2, -1), BAD);
        due("bad", x.sheet(4, -1, 0), BAD);
        due("still missing", x.pour(0), NOTHING);
    }

    private static void mark() {
        promise = 33;
        DominoKing x = new DominoKing();
        x.sheet(0, 0, 2);
        x.sheet(1, 1, 2);
        due("mark", x.mark(0, 1, 65536 + 40000), 1);
        x.lay(0, 2, 0);
        due("the lowest 16 bits", x.item(0, 1), 40000 - 65536);
        due("mark", x.mark(1, 0, 99999), 1);
        due("mark", x.mark(1, 1, -99999), 1);
        x.lay(0, 2, 1);
        due("item", x.item(0, 0), 99999);
        due("item", x.item(0, 1), -99999);
        due("no number", x.mark(1, 0, NONE), 1);
        x.lay(0, 2, 1);
        due("item", x.item(0, 0), KIND);
        due("bad", x.mark(1, 1, 100000), BAD);
        due("bad", x.mark(1, 1, -100000), BAD);
        due("bad", x.mark(1, 1, BAD), BAD);
        due("kind", x.mark(0, 0, NONE), KIND);
        due("index", x.mark(0, 2, 0), INDEX);
        due("index", x.mark(0, -1, 0), INDEX);
        due("index ahead of kind", x.mark(0, 2, NONE), INDEX);
        due("index ahead of bad", x.mark(1, 2, 100000), INDEX);
        due("nothing", x.mark(2, 99, 100000), NOTHING);
        due("bad", x.mark(4, 0, 0), BAD);
        due("bad", x.mark(-1, 0, 0), BAD);
        x.lay(0, 2, 1);
        due("as it was", x.item(0, 1), -99999);
    }

    private static void pour() {
        promise = 34;
        DominoKing x = new DominoKing();
        x.sheet(0, 1, 24);
        for (int i = 0; i < 24; i++) {
            x.mark(0, i, i == 0 ? NONE : i == 1 ? 50 : i == 2 ? 100 : i == 3 ? -1 : i + 50);
        }
        due("pour", x.pour(0), 22);
        due("pour", x.pour(0), 0);
        int[] due = {50, 50, 99, 0, 54};
        for (int cell = 0; cell < 5; cell++) {
            due("want " + cell, x.want(cell, 0), due[cell]);
        }
        due("want", x.want(23, 0), 73);
        x.sheet(1, 0, 1);
        x.mark(1, 0, 8);
        due("pour", x.pour(1), 1);
        due("beyond", x.want(5, 0), 55);
        due("bad", x.pour(4), BAD);
        due("bad", x.pour(-1), BAD);
        due("nothing", x.pour(2), NOTHING);
    }

    private static void reads() {
        promise = 35;
        DominoKing x = new DominoKing();
        x.stone(0, 1, 1);
        x.stone(0, 1, 1);
        x.put(1, 1, 0);
        x.sheet(0, 1, 13);
        due("first", x.reads(0), 0);
        x.mark(0, 0, NONE);
        due("second", x.reads(0), 1);
        x.mark(0, 1, 1);
        due("third", x.reads(0), 2);
        for (int i = 2; i < 12; i++) {
            x.mark(0, i, -1);
        }
        due("beyond", x.reads(0), 12);
        x.mark(0, 12, -1);
        due("beyond", x.reads(0), 12);
        x.mark(0, 12, NONE);
        due("none", x.reads(0), NONE);
        x.sheet(1, 0, 0);
        due("none", x.reads(1), NONE);
        due("nothing", x.reads(2), NOTHING);
        due("bad", x.reads(4), BAD);
        due("bad", x.reads(-1), BAD);
    }

    private static void copy() {
        promise = 36;
        DominoKing x = new DominoKing();
        x.sheet(0, 0, 5);
        x.sheet(1, 0, 3);
        x.sheet(2, 1, 5);
        for (int i = 0; i < 5; i++) {
            x.mark(0, i, i + 1);
        }
        due("copy", x.copy(0, 2, 1, 0, 3), 3);
        x.lay(0, 2, 1);
        due("item", x.item(0, 0), 3);
        due("item", x.item(0, 2), 5);
        due("copy on itself", x.copy(0, 0, 0, 1, 4), 4);
        x.lay(0, 2, 0);
        int[] due = {1, 1, 2, 3, 4};
        for (int i = 0; i < 5; i++) {
            due("item", x.item(0, i), due[i]);
        }
        due("none at the end", x.copy(0, 5, 1, 3, 0), 0);
        due("index", x.copy(0, 6, 1, 0, 0), INDEX);
        due("index", x.copy(0, 3, 1, 0, 3), INDEX);
        due("index", x.copy(0, 0, 1, 0, 4), INDEX);
        due("index", x.copy(0, -1, 1, 0, 1), INDEX);
        due("index", x.copy(0, 0, 1, -1, 1), INDEX);
        due("index", x.copy(0, 0, 1, 0, -1), INDEX);
        due("index", x.copy(0, 1, 1, 0, MOST), INDEX);
        due("index", x.copy(0, MOST, 1, 0, MOST), INDEX);
        due("kind ahead of index", x.copy(0, 9, 2, 0, 1), KIND);
        due("nothing ahead of kind", x.copy(3, 9, 2, 0, 1), NOTHING);
        due("nothing", x.copy(2, 0, 3, 0, 1), NOTHING);
        due("bad ahead of nothing", x.copy(3, 0, 4, 0, 1), BAD);
        due("bad", x.copy(4, 0, 0, 0, 1), BAD);
        due("bad", x.copy(-1, 0, 0, 0, 1), BAD);
        due("bad", x.copy(0, 0, -1, 0, 1), BAD);
        x.mark(2, 0, NONE);
        x.copy(2, 0, 2, 4, 1);
        x.lay(0, 2, 2);
        due("no number goes along", x.item(0, 4), KIND);
    }

    private static void lay() {
        promise = 37;
        DominoKing x = sixKinds();
        x.sheet(0, 0, 1);
        due("number", x.lay(4, 3, LEAST), 0);
        due("stone", x.lay(4, 1, 5), 3);
        due("sheet", x.lay(4, 2, 0), 1);
        due("nothing", x.lay(4, 0, 77), 2);
        due("nothing", x.lay(4, 0, -1), 0);
        due("bad slot", x.lay(5, 0, 0), BAD);
        due("bad slot", x.lay(-1, 0, 0), BAD);
        due("bad thing", x.lay(0, 4, 0), BAD);
        due("bad thing", x.lay(0, -1, 0), BAD);
        due("bad stone", x.lay(0, 1, 6), BAD);
        due("bad stone", x.lay(0, 1, -1), BAD);
        due("bad sheet", x.lay(0, 2, 4), BAD);
        due("bad sheet", x.lay(0, 2, -1), BAD);
        due("missing", x.lay(0, 2, 1), NOTHING);
        due("still nothing", x.lay(0, 3, 1), 0);
    }

    private static void ask() {
        promise = 38;
        DominoKing x = sixKinds();
        x.lay(0, 1, 3);
        x.turns(3, 5);
        due("as it was", x.ask(0, 0), 82);
        due("as it was", x.ask(0, 1), 82);
        due("as it was", x.ask(0, 3), 82);
        due("kind", x.ask(0, 2), KIND);
        due("kind", x.ask(0, 5), KIND);
        x.lay(1, 3, 7);
        due("no stone", x.ask(1, 0), KIND);
        due("nothing", x.ask(2, 0), NOTHING);
        due("bad ahead of nothing", x.ask(2, 6), BAD);
        due("bad", x.ask(0, -1), BAD);
        due("bad", x.ask(5, 0), BAD);
        due("bad", x.ask(-1, 0), BAD);
        x.back();
        due("for good", x.ask(0, 3), 82);
    }

    private static void item() {
        promise = 39;
        DominoKing x = new DominoKing();
        x.sheet(0, 1, 2);
        x.mark(0, 0, 5);
        x.mark(0, 1, NONE);
        x.lay(3, 2, 0);
        x.mark(0, 0, 6);
        x.sheet(0, -1, 0);
        due("a row of its own", x.item(3, 0), 5);
        due("no number", x.item(3, 1), KIND);
        due("index", x.item(3, 2), INDEX);
        due("index", x.item(3, -1), INDEX);
        x.lay(2, 3, 9);
        due("kind ahead of index", x.item(2, 99), KIND);
        due("nothing", x.item(1, 0), NOTHING);
        due("bad", x.item(5, 0), BAD);
        due("bad", x.item(-1, 0), BAD);
    }

    private static void rest() {
        promise = 40;
        DominoKing x = new DominoKing();
        x.stone(0, 0, 0);
        x.lay(0, 3, -7);
        x.lay(1, 3, LEAST);
        x.lay(2, 1, 0);
        due("rest", x.rest(0, 3), -1);
        due("rest", x.rest(0, -3), -1);
        due("rest", x.rest(1, -1), 0);
        due("by 0", x.rest(0, 0), NO);
        due("kind ahead of no", x.rest(2, 0), KIND);
        due("nothing ahead of no", x.rest(3, 0), NOTHING);
        due("bad", x.rest(5, 0), BAD);
        due("bad", x.rest(-1, 1), BAD);
    }

    private static void tell() {
        promise = 41;
        DominoKing x = new DominoKing();
        for (int i = 1; i <= 60; i++) {
            due("tell", x.tell(i), i);
        }
        due("full", x.tell(61), FULL);
        due("count", x.count(5), 60);
    }

    private static void check() {
        promise = 42;
        DominoKing x = new DominoKing();
        x.tell(1);
        due("no image", x.check(1), NO);
        due("none wait", x.count(5), 0);
        x.tell(1);
        due("bad ahead of no", x.check(0), BAD);
        due("none wait", x.count(5), 0);
        x.seed(3);
        x.deal(12);
        x.wind(40);
        textOf(x, "dark s*9+r");
        x.keep();
        int[] rows = new int[60];
        for (int i = 0; i < 30; i++) {
            x.days(1);
            rows[2 * i] = x.king(0);
            rows[2 * i + 1] = x.king(1);
        }
        textOf(x, "dark 50");
        due("all", checkRows(x, rows, 60, 30, -1), 0);
        due("image and z stay", checkRows(x, rows, 60, 30, -1), 0);
        due("one day", checkRows(x, rows, 2, 1, -1), 0);
        due("one missing", checkRows(x, rows, 3, 2, -1), 4);
        due("all missing", checkRows(x, rows, 0, 30, -1), 1);
        due("one too many", checkRows(x, rows, 7, 3, -1), 7);
        due("the first wrong", checkRows(x, rows, 60, 30, 0), 1);
        due("the last wrong", checkRows(x, rows, 60, 30, 59), 60);
        due("the first of two", checkRows(x, rows, 12, 30, 10), 11);
        due("bad", x.check(31), BAD);
        due("bad", x.check(-1), BAD);
        due("nothing else changes", x.count(1), 30);
    }

    private static int checkRows(DominoKing x, int[] rows, int many, int days, int spoilt) {
        for (int i = 0; i < many; i++) {
            x.tell(i == spoilt ? rows[i] + 1 : rows[i]);
        }
        int answer = x.check(days);
        due("none wait", x.count(5), 0);
        return answer;
    }

    private static void keepAndBack() {
        promise = 43;
        DominoKing x = sixKinds();
        x.put(0, 0, 1);
        x.want(3, 77);
        x.wind(12);
        x.days(4);
        x.seed(99);
        textOf(x, "fine 5");
        textOf(x, "dark 20");
        int picture = x.king(0);
        int places = x.king(3);
        due("keep", x.keep(), 6);
        for (int time = 0; time < 2; time++) {
            changeAll(x);
            promise = 44;
            due("back", x.back(), 6);
            due("stones", x.count(0), 6);
            due("day", x.count(1), 4);
            due("wind", x.count(2), 12);
            due("texts", x.count(4), 2);
            due("waiting stays", x.count(5), time + 1);
            due("tape stays", x.count(6), 12 * (time + 1));
            due("z", x.count(7), 99);
            due("picture", x.king(0), picture);
            due("places", x.king(3), places);
            due("kind", x.told(1, 0), 1);
            due("turned", x.told(0, 4), 1);
            due("want", x.want(3, 77), 77);
            due("fine", x.fine(0), 5);
            due("why", x.why(1), NONE);
            due("sheet stays", x.pour(2), 0);
            due("slot stays", x.rest(1, 1000), 8);
        }
        x.stone(0, 6, 6);
        due("a stone behind it is new", x.told(6, 3), 12);
        due("keep again", x.keep(), 7);
        x.box(0);
        due("back", x.back(), 7);
        due("none", new DominoKing().back(), NO);
    }

    private static void changeAll(DominoKing x) {
        int waited = x.count(6);
        x.trim(0);
        textOf(x, "dark 70");
        textOf(x, "fee 1");
        textOf(x, "fine 6");
        for (int i = 0; i < waited + 12; i += 12) {
            x.feed(0, 0, 0);
        }
        x.stone(0, 1, 1);
        x.put(6, x.at(11) == NONE ? 11 : 10, 1);
        x.box(0);
        x.turns(1, 5);
        x.want(3, 1);
        x.wind(99);
        x.days(9);
        x.tell(4);
        x.sheet(2, 0, 0);
        x.lay(1, 3, 8);
    }

    private static void count() {
        promise = 45;
        DominoKing x = sixKinds();
        x.put(2, 2, 0);
        x.wind(31);
        x.seed(-5);
        textOf(x, "fee 1");
        x.feed(0, 0, 0);
        x.tell(9);
        int[] due = {6, 0, 31, 5, 1, 1, 12, -5};
        for (int what = 0; what < 8; what++) {
            due("count " + what, x.count(what), due[what]);
        }
        x.days(3);
        due("the day", x.count(1), 3);
        due("bad", x.count(8), BAD);
        due("bad", x.count(-1), BAD);
    }

    public static void main(String[] args) {
        aNewObject();
        stone();
        told();
        off();
        as();
        turns();
        put();
        box();
        want();
        wind();
        deal();
        seed();
        days();
        king();
        at();
        best();
        bestFor();
        swap();
        knocked();
        push();
        behind();
        laid();
        lost();
        seen();
        fee();
        fine();
        feed();
        trim();
        text();
        textTold();
        why();
        sheet();
        mark();
        pour();
        reads();
        copy();
        lay();
        ask();
        item();
        rest();
        tell();
        check();
        keepAndBack();
        count();
        System.out.println(wrong == 0 ? "all answers are as due" : wrong + " answers are not as due");
        if (wrong != 0) {
            System.exit(1);
        }
    }
}
