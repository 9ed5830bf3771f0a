/** The bounds of what is kept and drawn: parts 1 and 2 of the document's terms, promises 1 to 15. */
public final class BoundsOfStonesTest {
    private static final int FULL = Trial.FULL;
    private static final int NONE = Trial.NONE;
    private static final int KIND = Trial.KIND;
    private static final int LEAST = Trial.LEAST;
    private static final int MOST = Trial.MOST;

    // ---- part 1: places and cells

    private static void aNewObject() {
        Trial.on("promise 1, as told; no stones");
        DominoKing x = new DominoKing();
        int[] counts = {0, 0, 0, 0, 0, 0, 0, 1};
        for (int what = 0; what < 8; what++) {
            Trial.due(counts[what], x, "count", what);
        }
        for (int place = 0; place < 12; place++) {
            Trial.due(NONE, x, "at", place);
        }
        Trial.due(Trial.BAD, x, "told", 0, 0);
        Trial.due(0, x, "king", 2);
        Trial.due(0, x, "king", 3);
        Trial.due(Trial.NO, x, "back");
        for (int sheet = 0; sheet < 4; sheet++) {
            Trial.due(Trial.NOTHING, x, "reads", sheet);
        }
        for (int slot = 0; slot < 5; slot++) {
            Trial.due(0, x, "lay", slot, 0, 0);
        }
        for (int key = 0; key < 3; key++) {
            Trial.due(NONE, x, "why", key);
        }
        Trial.due(0, new DominoKing(), "wind", 0);
        Trial.due(1, new DominoKing(), "seed", 1);
    }

    private static void rowsOfPlaces() {
        Trial.on("part 1, PLACE p is in row p / 3");
        DominoKing x = Trial.darkRoom();
        x.stone(0, 0, 0);
        Trial.textOf(x, "dark r*10");
        for (int place = 0; place < 12; place++) {
            Trial.due(2 * 10 * (place / 3), x, "off", 0, place, 0);
        }
        for (int place = 0; place < 12; place++) {
            Trial.due(place == 0 ? 12 : place - 1, x, "put", 0, place, 0);
            Trial.due(2 * 10 * (place / 3) + 22 * 99, x, "king", 0);
            Trial.due(1 << place, x, "king", 3);
        }
    }

    private static void cellsOfPlaces() {
        Trial.on("part 1, each PLACE has two CELLS, 2 p and 2 p and 1");
        for (int cell = 0; cell < 24; cell++) {
            DominoKing x = Trial.darkRoom();
            x.stone(0, 1, 0);
            Trial.due(0, x, "want", cell, 15);
            for (int place = 0; place < 12; place++) {
                boolean its = place == cell / 2;
                Trial.due(its && cell % 2 == 0 ? 0 : its ? 30 : 15, x, "off", 0, place, 0);
                Trial.due(its && cell % 2 == 1 ? 0 : its ? 30 : 15, x, "off", 0, place, 1);
            }
        }
    }

    private static void wants() {
        Trial.on("part 1, WANT 0 .. 99 (50 at first)");
        DominoKing x = new DominoKing();
        x.stone(5, 0, 0);
        for (int cell = 0; cell < 24; cell++) {
            Trial.due(50, x, "want", cell, 0);
            Trial.due(0, x, "want", cell, 99);
            Trial.due(99, x, "want", cell, cell);
        }
        for (int place = 0; place < 12; place++) {
            Trial.due(2 * place + 2 * place + 1, x, "off", 0, place, 0);
        }
        for (int cell = 0; cell < 24; cell++) {
            Trial.due(cell, x, "want", cell, cell);
        }
    }

    private static void winds() {
        Trial.on("part 1, WIND is 0 .. 100 (0 at first)");
        DominoKing x = new DominoKing();
        Trial.due(0, x, "count", 2);
        Trial.due(0, x, "wind", 100);
        Trial.due(100, x, "count", 2);
        Trial.due(100, x, "wind", 0);
        Trial.due(0, x, "wind", 1);
        Trial.due(1, x, "wind", 99);
    }

    // ---- part 1: stones

    private static void twelveStones() {
        Trial.on("part 1, STONES, 12 at most, numbered from 0");
        DominoKing x = new DominoKing();
        for (int i = 0; i < 12; i++) {
            Trial.due(i, x, "count", 0);
            Trial.due(Trial.BAD, x, "told", i, 1);
            Trial.due(i, x, "stone", i % 6, i % 7, 6 - i % 7);
            Trial.due(i % 6, x, "told", i, 0);
            Trial.due(i % 7, x, "told", i, 1);
            Trial.due(6 - i % 7, x, "told", i, 2);
            Trial.due(12, x, "told", i, 3);
            Trial.due(0, x, "told", i, 4);
        }
        Trial.due(FULL, x, "stone", 0, 0, 0);
        Trial.due(12, x, "count", 0);
        Trial.due(12, x, "count", 3);
        for (int i = 0; i < 12; i++) {
            Trial.due(12, x, "put", i, 11 - i, 1);
            Trial.due(11 - i, x, "told", i, 3);
            Trial.due(11 - i, x, "count", 3);
        }
        Trial.due(4095, x, "king", 3);
        Trial.due(12, x, "king", 2);
        Trial.due(FULL, x, "stone", 0, 0, 0);
    }

    private static void aStoneIsNewBehindBack() {
        Trial.on("part 1, in the box at first, not TURNED at first: also where an image's stone was");
        DominoKing x = new DominoKing();
        x.keep();
        x.stone(3, 1, 2);
        x.put(0, 4, 1);
        x.back();
        Trial.due(NONE, x, "at", 4);
        Trial.due(0, x, "stone", 0, 1, 2);
        Trial.due(12, x, "told", 0, 3);
        Trial.due(0, x, "told", 0, 4);
        x.put(0, 4, 1);
        x.back();
        x.deal(1);
        Trial.due(12, x, "told", 0, 3);
        Trial.due(0, x, "told", 0, 4);
    }

    private static void kinds() {
        Trial.on("part 1, KINDS, one under the other");
        int[][] of = {{0}, {0, 1}, {0, 2}, {0, 1, 3}, {0, 2, 4}, {0, 5}};
        for (int is = 0; is < 6; is++) {
            DominoKing x = new DominoKing();
            x.stone(is, 5, 2);
            x.lay(0, 1, 0);
            for (int as = 0; as < 6; as++) {
                boolean under = false;
                for (int k : of[is]) {
                    under |= k == as;
                }
                Trial.due(under ? 5 : KIND, x, "as", 0, as);
                Trial.due(under ? x.told(0, 6) : KIND, x, "ask", 0, as);
            }
        }
        Trial.on("promise 6, another KIND from now on: what it was; every KIND into every one");
        for (int is = 0; is < 6; is++) {
            for (int will = 0; will < 6; will++) {
                DominoKing x = new DominoKing();
                x.stone(is, 6, 1);
                x.put(0, 3, 1);
                DominoKing y = new DominoKing();
                y.stone(will, 6, 1);
                y.put(0, 3, 1);
                Trial.due(is, x, "turns", 0, will);
                for (int what = 0; what < 7; what++) {
                    Trial.due(y.told(0, what), x, "told", 0, what);
                }
                Trial.due(y.off(0, 3, 1), x, "off", 0, 3, 1);
                Trial.due(y.king(0), x, "king", 0);
            }
        }
    }

    private static void darkWithoutText() {
        Trial.on("part 1, DARK without a TEXT: 15 times s; IVORY 0 at least; YELLOW cut; DUSTY 99 at most");
        int[][] dark = {
            {0, 15, 30, 45, 60, 75, 90},
            {0, 5, 20, 35, 50, 65, 80},
            {99, 84, 69, 54, 39, 24, 9},
            {30, 32, 40, 47, 55, 62, 70},
            {99, 89, 74, 59, 44, 29, 14},
            {0, 0, 0, 0, 0, 0, 0}};
        for (int kind = 0; kind < 6; kind++) {
            DominoKing x = Trial.darkRoom();
            for (int spots = 0; spots <= 6; spots++) {
                x.stone(kind, spots, 6 - spots);
                Trial.due(dark[kind][spots] + dark[kind][6 - spots], x, "off", spots, 11, 0);
                x.want(22, 99);
                Trial.due(99 - dark[kind][spots] + dark[kind][6 - spots], x, "off", spots, 11, 0);
                Trial.due(99 - dark[kind][6 - spots] + dark[kind][spots], x, "off", spots, 11, 1);
                x.want(22, 0);
            }
        }
    }

    /** DARK of a stone of a kind where the law gives v. */
    private static int darkOf(int kind, String v) {
        DominoKing x = Trial.darkRoom();
        x.stone(kind, 3, 3);
        Trial.due("dark " + v, Trial.textOf(x, "dark " + v), 0);
        return x.off(0, 0, 0) / 2;
    }

    private static void darkHeldWithin() {
        Trial.on("part 1, what dark gives, held within 0 .. 99, ahead of what the KIND does");
        String[] gives = {"0-9999", "0-1", "0", "1", "98", "99", "100", "9999"};
        int[] held = {0, 0, 0, 1, 98, 99, 99, 99};
        for (int i = 0; i < held.length; i++) {
            int d = held[i];
            Trial.due("STONE, " + gives[i], darkOf(0, gives[i]), d);
            Trial.due("IVORY, " + gives[i], darkOf(1, gives[i]), d < 10 ? 0 : d - 10);
            Trial.due("CHALK, " + gives[i], darkOf(2, gives[i]), 99 - d);
            Trial.due("YELLOW, " + gives[i], darkOf(3, gives[i]), ((d < 10 ? 0 : d - 10) + 60) / 2);
            Trial.due("DUSTY, " + gives[i], darkOf(4, gives[i]), d < 5 ? 99 : 104 - d);
            Trial.due("BLANK, " + gives[i], darkOf(5, gives[i]), 0);
        }
        Trial.on("part 1, IVORY: 0 at least");
        Trial.due("9", darkOf(1, "9"), 0);
        Trial.due("10", darkOf(1, "10"), 0);
        Trial.due("11", darkOf(1, "11"), 1);
        Trial.on("part 1, YELLOW: the middle, cut");
        Trial.due("10", darkOf(3, "10"), 30);
        Trial.due("11", darkOf(3, "11"), 30);
        Trial.due("12", darkOf(3, "12"), 31);
        Trial.on("part 1, DUSTY: 99 at most");
        Trial.due("4", darkOf(4, "4"), 99);
        Trial.due("5", darkOf(4, "5"), 99);
        Trial.due("6", darkOf(4, "6"), 98);
        Trial.on("part 4, ints wrap: 4000 * 4000 * 200 is below 0, 8000 * 8000 * 100 above");
        Trial.due("wraps below", darkOf(0, "4000*4000*200"), 0);
        Trial.due("wraps above", darkOf(0, "8000*8000*100"), 99);
    }

    private static void heavyAndWorth() {
        int[][] spots = {{0, 0}, {6, 6}, {0, 1}, {6, 5}, {0, 6}, {6, 0}};
        int[][] heavy = {
            {0, 12, 1, 11, 6, 6},
            {2, 14, 3, 13, 8, 8},
            {0, 6, 0, 5, 3, 3},
            {4, 28, 6, 26, 16, 16},
            {0, 6, 0, 5, 3, 3},
            {1, 1, 1, 1, 1, 1}};
        int[][] worth = {
            {0, 66, 1, 65, 6, 60},
            {7, 73, 8, 72, 13, 67},
            {99, 33, 98, 34, 93, 39},
            {14, 146, 16, 144, 26, 134},
            {95, 29, 94, 30, 89, 35},
            {3, 3, 3, 3, 3, 3}};
        for (int kind = 0; kind < 6; kind++) {
            DominoKing x = new DominoKing();
            for (int i = 0; i < spots.length; i++) {
                x.stone(kind, spots[i][0], spots[i][1]);
                x.put(i, i, 1);
                Trial.on("part 1, HEAVY of KIND " + kind);
                Trial.due(heavy[kind][i], x, "told", i, 5);
                Trial.on("part 1, WORTH of KIND " + kind);
                Trial.due(worth[kind][i], x, "told", i, 6);
            }
        }
        Trial.on("part 1, a KIND that is not named does as the one above it: what dark's k is");
        int[] k = {11, 13, 5, 26, 5, 1};
        for (int kind = 0; kind < 5; kind++) {
            DominoKing x = Trial.darkRoom();
            x.stone(kind, 6, 5);
            Trial.textOf(x, "dark k*3");
            int plain = 3 * k[kind];
            int[] dark = {plain, plain - 10, 99 - plain, (plain - 10 + 60) / 2, 99 - plain + 5};
            Trial.due(2 * dark[kind], x, "off", 0, 0, 0);
        }
    }

    // ---- part 1: the picture

    private static void offs() {
        Trial.on("part 1, OFF: by how much they differ, whichever is the greater");
        DominoKing x = new DominoKing();
        x.stone(0, 6, 2);
        x.want(0, 99);
        x.want(1, 0);
        Trial.due(9 + 30, x, "off", 0, 0, 0);
        Trial.due(69 + 90, x, "off", 0, 0, 1);
        x.want(0, 0);
        x.want(1, 99);
        Trial.due(90 + 69, x, "off", 0, 0, 0);
        Trial.due(30 + 9, x, "off", 0, 0, 1);
        x.want(0, 90);
        x.want(1, 30);
        Trial.due(0, x, "off", 0, 0, 0);
        Trial.due(60 + 60, x, "off", 0, 0, 1);
        Trial.on("promise 4, as told by turn, not as it lies");
        x.put(0, 0, 1);
        Trial.due(0, x, "off", 0, 0, 0);
        Trial.due(120, x, "off", 0, 0, 1);
        x.put(0, 11, 0);
        Trial.due(120, x, "off", 0, 0, 1);
    }

    private static void pictures() {
        Trial.on("part 1, PICTURE: OFF of all that are laid, and 99 for each CELL of a PLACE that holds nothing");
        DominoKing x = new DominoKing();
        Trial.due(24 * 99, x, "king", 0);
        Trial.stones(x, 12, 0, 6, 0);
        Trial.due(24 * 99, x, "king", 0);
        for (int place = 0; place < 12; place++) {
            x.put(place, place, 0);
            Trial.due((22 - 2 * place) * 99 + (place + 1) * 90, x, "king", 0);
        }
        Trial.wantAll(x, 99);
        Trial.due(12 * (9 + 99), x, "king", 0);
        for (int cell = 0; cell < 24; cell++) {
            x.want(cell, cell % 2 == 0 ? 90 : 0);
        }
        Trial.due(0, x, "king", 0);
        x.put(11, 11, 1);
        Trial.due(180, x, "king", 0);
        x.box(11);
        Trial.due(198, x, "king", 0);
    }

    private static void matches() {
        Trial.on("part 1, MATCHES: one right behind the other in one row");
        for (int place = 0; place < 11; place++) {
            DominoKing x = new DominoKing();
            x.stone(0, 3, 5);
            x.stone(5, 5, 4);
            x.put(0, place, 0);
            x.put(1, place + 1, 0);
            Trial.due(place % 3 == 2 ? 0 : 1, x, "king", 1);
            x.put(0, place, 1);
            Trial.due(0, x, "king", 1);
            x.put(1, place + 1, 1);
            Trial.due(0, x, "king", 1);
            x.put(0, place, 0);
            Trial.due(0, x, "king", 1);
        }
        Trial.on("part 1, MATCHES: none over a PLACE that holds nothing, none beside the box");
        DominoKing x = Trial.allLaid(0, 4, 4);
        Trial.due(8, x, "king", 1);
        x.box(1);
        Trial.due(6, x, "king", 1);
        x.box(9);
        Trial.due(5, x, "king", 1);
        x.box(11);
        Trial.due(4, x, "king", 1);
        Trial.due(0, new DominoKing(), "king", 1);
        Trial.on("part 1, MATCHES: TURNED is the other way round, on either side");
        DominoKing y = Trial.allLaid(0, 4, 5);
        Trial.due(0, y, "king", 1);
        y.put(0, 0, 1);
        Trial.due(1, y, "king", 1);
        y.put(1, 1, 1);
        Trial.due(1, y, "king", 1);
        y.put(2, 2, 1);
        Trial.due(0, y, "king", 1);
        y.put(0, 0, 0);
        Trial.due(1, y, "king", 1);
    }

    private static void strewnStones() {
        Trial.on("part 1, PICTURE and MATCHES of STONES that lie anywhere, TURNED or not each by itself");
        for (int bits : new int[] {0, 4095, 1365, 2730, 77, 3001}) {
            DominoKing x = Trial.strewn(11, bits);
            int picture = 198;
            for (int i = 0; i < 11; i++) {
                for (int half = 0; half < 2; half++) {
                    int want = (17 * (2 * Trial.strewnTo(i) + half) + bits) % 100;
                    picture += Math.abs(15 * Trial.spots(x, i, half) - want);
                }
            }
            Trial.due(picture, x, "king", 0);
            int matches = 0;
            for (int place = 0; place < 11; place++) {
                int one = x.at(place);
                int other = x.at(place + 1);
                if (place % 3 < 2 && one != NONE && other != NONE && Trial.spots(x, one, 1) == Trial.spots(x, other, 0)) {
                    matches++;
                }
            }
            Trial.due(matches, x, "king", 1);
        }
    }

    private static void oneMoreChangesNoOther() {
        Trial.on("promise 2, one more STONE: no other one changes; promise 11 likewise");
        for (int kind = 0; kind < 6; kind++) {
            DominoKing x = Trial.strewn(7, 127);
            x.stone(kind, kind, 6 - kind);
            x.deal(1);
            for (int i = 0; i < 7; i++) {
                Trial.due(0, x, "told", i, 0);
                Trial.due((i * i + 127) % 7, x, "told", i, 1);
                Trial.due((3 * i + 1) % 7, x, "told", i, 2);
                Trial.due(Trial.strewnTo(i), x, "told", i, 3);
                Trial.due(1, x, "told", i, 4);
            }
        }
    }

    private static void putsAndBoxes() {
        Trial.on("promise 7, where it was AT; onto its own PLACE; away from another");
        DominoKing x = new DominoKing();
        Trial.stones(x, 2, 0, 1, 2);
        Trial.due(12, x, "put", 0, 0, 1);
        Trial.due(1, x, "told", 0, 4);
        Trial.due(0, x, "put", 0, 0, 1);
        Trial.due(0, x, "put", 0, 0, 0);
        Trial.due(0, x, "told", 0, 4);
        Trial.due(0, x, "at", 0);
        Trial.due(0, x, "put", 0, 11, 1);
        Trial.due(NONE, x, "at", 0);
        Trial.due(0, x, "at", 11);
        Trial.due(12, x, "put", 1, 0, 0);
        Trial.due(1, x, "at", 0);
        Trial.due(Trial.NO, x, "put", 1, 11, 0);
        Trial.on("promise 8, TURNED or not as it was: where it was AT");
        Trial.due(11, x, "box", 0);
        Trial.due(1, x, "told", 0, 4);
        Trial.due(12, x, "told", 0, 3);
        Trial.due(NONE, x, "at", 11);
        Trial.due(12, x, "box", 0);
        Trial.due(1, x, "told", 0, 4);
        Trial.due(0, x, "put", 1, 11, 0);
        Trial.due(11, x, "box", 1);
        Trial.due(0, x, "told", 1, 4);
        Trial.due(0, x, "king", 2);
        Trial.due(2, x, "count", 3);
    }

    // ---- part 2: draws

    private static void draws() {
        Trial.on("part 2, z becomes z * 1103515245 + 12345 (an int); it gives z >>> 8");
        for (int z : new int[] {0, 1, -1, LEAST, MOST, LEAST + 1, MOST - 1, 123456789, -987654321}) {
            DominoKing x = new DominoKing();
            Trial.due(1, x, "seed", z);
            Trial.due(z, x, "count", 7);
            Trial.due(1, x, "deal", 1);
            Trial.due(Trial.draw(z, 1) % 6, x, "told", 0, 0);
            Trial.due(Trial.draw(z, 2) % 7, x, "told", 0, 1);
            Trial.due(Trial.draw(z, 3) % 7, x, "told", 0, 2);
            Trial.due(Trial.next(z, 3), x, "count", 7);
            Trial.due(Trial.next(z, 3), x, "seed", z);
            Trial.due(z, x, "seed", 0);
        }
        Trial.on("part 2, a draw from a z below 0 is not below 0");
        int z = Trial.zWhere(v -> Trial.next(v) < 0 && Trial.draw(v, 1) % 4 == 3);
        DominoKing x = new DominoKing();
        x.stone(0, 0, 0);
        x.seed(z);
        Trial.due(1, x, "days", 1);
        Trial.due(0, x, "at", 9);
    }

    private static void deals() {
        Trial.on("promise 11, n (1 .. 12) of them, as many as there is room for");
        for (int have = 0; have <= 12; have++) {
            for (int n : new int[] {1, 2, 11, 12}) {
                DominoKing x = new DominoKing();
                Trial.stones(x, have, 5, 0, 0);
                x.seed(have - 6);
                int came = Math.min(n, 12 - have);
                Trial.due(came, x, "deal", n);
                Trial.due(have + came, x, "count", 0);
                Trial.due(have + came, x, "count", 3);
                Trial.due(Trial.next(have - 6, 3 * came), x, "count", 7);
            }
        }
    }

    // ---- part 2: a day

    private static void theRow() {
        Trial.on("part 2, the rest by 4 is the row; its first PLACE that holds nothing; none: no more in (1)");
        for (int row = 0; row < 4; row++) {
            DominoKing x = new DominoKing();
            Trial.stones(x, 5, 0, 3, 3);
            int z = Trial.zOfRow(row);
            for (int i = 0; i < 4; i++) {
                x.seed(z);
                Trial.due(i < 3 ? 1 : 0, x, "days", 1);
                Trial.due(i < 3 ? 4 - i : 2, x, "count", 3);
                Trial.due(Trial.next(z, 2), x, "count", 7);
                Trial.due(i + 1, x, "count", 1);
            }
            for (int i = 0; i < 3; i++) {
                Trial.due(i, x, "at", 3 * row + i);
            }
            x.box(1);
            x.seed(z);
            Trial.due(1, x, "days", 1);
            Trial.due(1, x, "at", 3 * row + 1);
        }
        Trial.on("part 2, none in the box: nothing, but THE DAY and the draws go on");
        DominoKing x = new DominoKing();
        x.stone(0, 1, 1);
        x.put(0, 11, 0);
        x.seed(Trial.zOfRow(0));
        Trial.due(0, x, "days", 1);
        Trial.due(NONE, x, "at", 0);
        Trial.due(1, x, "count", 1);
        Trial.due(Trial.next(Trial.zOfRow(0), 2), x, "count", 7);
    }

    private static void theStone() {
        int z = Trial.zOfRow(1);
        Trial.on("part 2, OFF least, of several the least number");
        DominoKing x = new DominoKing();
        x.stone(0, 0, 0);
        x.stone(0, 3, 3);
        x.stone(0, 3, 3);
        x.seed(z);
        x.days(1);
        Trial.due(1, x, "at", 3);
        Trial.on("part 2, less by 1 goes ahead of the lesser number");
        DominoKing less = new DominoKing();
        less.stone(0, 1, 0);
        less.stone(0, 0, 0);
        less.want(6, 7);
        less.want(7, 0);
        less.seed(z);
        less.days(1);
        Trial.due(1, less, "at", 3);
        DominoKing more = new DominoKing();
        more.stone(0, 0, 0);
        more.stone(0, 1, 0);
        more.want(6, 7);
        more.want(7, 0);
        more.seed(z);
        more.days(1);
        Trial.due(0, more, "at", 3);
    }

    private static void theTurn() {
        int z = Trial.zOfRow(3);
        Trial.on("part 2, not TURNED ahead; it was TURNED in the box: that is gone");
        DominoKing x = new DominoKing();
        x.stone(0, 3, 3);
        x.put(0, 0, 1);
        x.box(0);
        x.seed(z);
        x.days(1);
        Trial.due(0, x, "at", 9);
        Trial.due(0, x, "told", 0, 4);
        Trial.on("part 2, TURNED, if OFF is less then");
        DominoKing y = new DominoKing();
        y.stone(0, 0, 1);
        y.want(18, 8);
        y.want(19, 7);
        y.seed(z);
        y.days(1);
        Trial.due(1, y, "told", 0, 4);
        Trial.on("part 2, the least number TURNED goes ahead of a greater one not TURNED");
        DominoKing both = new DominoKing();
        both.stone(0, 1, 4);
        both.stone(0, 4, 1);
        both.want(18, 60);
        both.want(19, 15);
        both.seed(z);
        both.days(1);
        Trial.due(0, both, "at", 9);
        Trial.due(1, both, "told", 0, 4);
    }

    private static DominoKing windy(int wind, int z) {
        DominoKing x = Trial.allLaid(0, 1, 2);
        x.wind(wind);
        x.seed(z);
        x.days(1);
        return x;
    }

    private static void turnedAlone(DominoKing x, int place) {
        for (int p = 0; p < 12; p++) {
            Trial.due(p == place ? 1 : 0, x, "told", p, 4);
        }
    }

    private static void theWind() {
        Trial.on("part 2, its rest by 100 below WIND: one more draw, turned at its rest by 12");
        for (int rest : new int[] {0, 1, 50, 98, 99}) {
            for (int place : new int[] {0, 5, 11}) {
                int z = Trial.zOfDay(0, rest, place);
                DominoKing still = windy(rest, z);
                turnedAlone(still, -1);
                Trial.due(Trial.next(z, 2), still, "count", 7);
                DominoKing turned = windy(rest + 1, z);
                turnedAlone(turned, place);
                Trial.due(Trial.next(z, 3), turned, "count", 7);
            }
        }
        Trial.on("part 2, WIND 0 turns none, WIND 100 one each day");
        int z = Trial.zOfDay(2, 0, 7);
        turnedAlone(windy(0, z), -1);
        int other = Trial.zOfDay(2, 99, 7);
        turnedAlone(windy(100, other), 7);
        turnedAlone(windy(99, other), -1);
        Trial.on("part 2, turned the other way round: twice is not TURNED");
        DominoKing x = windy(100, other);
        x.seed(other);
        x.days(1);
        turnedAlone(x, -1);
    }

    private static void theWindOnStrewnStones() {
        Trial.on("part 2, the STONE at the PLACE is turned, not the PLACE's number");
        for (int place = 0; place < 12; place++) {
            for (int bits : new int[] {0, 4095, 1365}) {
                DominoKing x = Trial.strewn(12, bits);
                x.wind(1);
                x.seed(Trial.zOfDay(3, 0, place));
                x.days(1);
                for (int i = 0; i < 12; i++) {
                    int was = bits >> i & 1;
                    Trial.due(Trial.strewnTo(i) == place ? 1 - was : was, x, "told", i, 4);
                }
            }
        }
    }

    private static void theWindAndTheBox() {
        Trial.on("part 2, the STONE at the PLACE, if there is one: the draw is drawn all the same");
        int z = Trial.zOfDay(0, 0, 4);
        DominoKing bare = new DominoKing();
        bare.stone(0, 1, 2);
        bare.put(0, 5, 0);
        bare.wind(1);
        bare.seed(z);
        bare.days(1);
        Trial.due(0, bare, "told", 0, 4);
        Trial.due(Trial.next(z, 3), bare, "count", 7);
        Trial.on("part 2, (2) comes behind (1): the STONE that is laid that day may be turned");
        int same = Trial.zOfDay(1, 0, 3);
        DominoKing x = new DominoKing();
        x.stone(0, 3, 3);
        x.wind(1);
        x.seed(same);
        Trial.due(1, x, "days", 1);
        Trial.due(0, x, "at", 3);
        Trial.due(1, x, "told", 0, 4);
    }

    private static void theDays() {
        Trial.on("promise 13, n (1 .. 100): how many STONES more are laid");
        DominoKing x = new DominoKing();
        x.deal(12);
        x.put(0, 7, 0);
        int ahead = x.king(2);
        int n1 = x.days(1);
        Trial.due(ahead + n1, x, "king", 2);
        Trial.due(1, x, "count", 1);
        int n100 = x.days(100);
        Trial.due(ahead + n1 + n100, x, "king", 2);
        Trial.due(101, x, "count", 1);
        Trial.due(12, x, "king", 2);
        Trial.due(0, x, "days", 100);
        Trial.on("part 1, THE DAY is 0 at first, 9999 at most; promise 13, no more than up to 9999");
        for (int[] of : new int[][] {{9998, 1}, {9999, 0}, {9899, 100}, {9900, 99}, {9997, 2}}) {
            DominoKing late = Trial.atDay(of[0]);
            Trial.due(of[0], late, "count", 1);
            late.seed(5);
            late.days(100);
            Trial.due(9999, late, "count", 1);
            Trial.due(Trial.next(5, 2 * of[1]), late, "count", 7);
        }
        DominoKing late = Trial.atDay(9998);
        late.stone(0, 1, 1);
        Trial.due(1, late, "days", 2);
        Trial.due(9999, late, "count", 1);
        late.box(0);
        Trial.due(0, late, "days", 1);
        Trial.due(9999, late, "count", 1);
    }

    private static void kingAndAt() {
        Trial.on("promise 14, what 0 .. 3; promise 15, NONE: nothing");
        DominoKing x = new DominoKing();
        x.stone(0, 2, 2);
        x.stone(0, 2, 2);
        x.put(0, 10, 0);
        x.put(1, 11, 0);
        Trial.due(20 * 99 + 4 * 20, x, "king", 0);
        Trial.due(1, x, "king", 1);
        Trial.due(2, x, "king", 2);
        Trial.due(1024 + 2048, x, "king", 3);
        for (int place = 0; place < 12; place++) {
            Trial.due(place < 10 ? NONE : place - 10, x, "at", place);
        }
    }

    public static void main(String[] args) {
        aNewObject();
        rowsOfPlaces();
        cellsOfPlaces();
        wants();
        winds();
        twelveStones();
        aStoneIsNewBehindBack();
        kinds();
        darkWithoutText();
        darkHeldWithin();
        heavyAndWorth();
        offs();
        pictures();
        matches();
        strewnStones();
        oneMoreChangesNoOther();
        putsAndBoxes();
        draws();
        deals();
        theRow();
        theStone();
        theTurn();
        theWind();
        theWindOnStrewnStones();
        theWindAndTheBox();
        theDays();
        kingAndAt();
        Trial.end();
    }
}
