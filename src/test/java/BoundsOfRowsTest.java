import java.util.Arrays;

/** The bounds of sheets, slots, rows that wait and images: part 5 of the document's terms, promises 32 to 45. */
public final class BoundsOfRowsTest {
    private static final int BAD = Trial.BAD;
    private static final int NO = Trial.NO;
    private static final int FULL = Trial.FULL;
    private static final int NONE = Trial.NONE;
    private static final int NOTHING = Trial.NOTHING;
    private static final int KIND = Trial.KIND;
    private static final int INDEX = Trial.INDEX;
    private static final int LEAST = Trial.LEAST;
    private static final int MOST = Trial.MOST;

    /** The places of a sheet are these numbers, and no more. */
    private static void holds(DominoKing x, int sheet, int... numbers) {
        x.lay(4, 2, sheet);
        for (int place = 0; place < numbers.length; place++) {
            Trial.due(numbers[place], x, "item", 4, place);
        }
        Trial.due(INDEX, x, "item", 4, numbers.length);
    }

    private static void write(DominoKing x, int sheet, int sort, int... numbers) {
        x.sheet(sheet, sort, numbers.length);
        for (int place = 0; place < numbers.length; place++) {
            x.mark(sheet, place, numbers[place]);
        }
    }

    // ---- sheets

    private static void sheets() {
        Trial.on("promise 32, a row of n places (0 to 24), all 0: n");
        for (int sheet = 0; sheet < 4; sheet++) {
            for (int sort = 0; sort < 2; sort++) {
                for (int n : new int[] {0, 1, 23, 24}) {
                    DominoKing x = new DominoKing();
                    Trial.due(NOTHING, x, "lay", 0, 2, sheet);
                    Trial.due(n, x, "sheet", sheet, sort, n);
                    holds(x, sheet, new int[n]);
                    Trial.due(n == 0 ? INDEX : 1, x, "mark", sheet, n - 1, 5);
                    Trial.due(INDEX, x, "mark", sheet, n, 5);
                    Trial.due(n, x, "sheet", sheet, 1 - sort, n);
                    holds(x, sheet, new int[n]);
                }
            }
        }
        Trial.on("promise 32, sort -1: MISSING, n any: 0");
        for (int n : new int[] {0, 1, 25, -1, LEAST, MOST}) {
            DominoKing x = new DominoKing();
            Trial.due(0, x, "sheet", 1, -1, n);
            x.sheet(1, 0, 3);
            Trial.due(0, x, "sheet", 1, -1, n);
            Trial.due(NOTHING, x, "pour", 1);
            Trial.due(NOTHING, x, "mark", 1, 0, 0);
            Trial.due(NOTHING, x, "lay", 0, 2, 1);
        }
        Trial.on("promise 32, a row again: what it had is gone");
        DominoKing x = new DominoKing();
        write(x, 0, 0, 7, 8, 9);
        x.sheet(0, 0, 1);
        x.sheet(0, 0, 3);
        holds(x, 0, 0, 0, 0);
        write(x, 0, 1, NONE, NONE);
        x.sheet(0, -1, 0);
        x.sheet(0, 1, 2);
        holds(x, 0, 0, 0);
    }

    private static void marks() {
        Trial.on("promise 33, of shorts its lowest 16 bits");
        int[] v = {0, 1, -1, 32767, 32768, 65535, 65536, 65537, -32768, -32769, MOST, LEAST, NONE + 1, BAD};
        int[] low = {0, 1, -1, 32767, -32768, -1, 0, 1, -32768, 32767, -1, 0, (short) (NONE + 1), (short) BAD};
        DominoKing x = new DominoKing();
        write(x, 0, 0, v);
        holds(x, 0, low);
        Trial.on("promise 33, of floats v, -99999 .. 99999; NONE: NO NUMBER");
        DominoKing y = new DominoKing();
        y.sheet(3, 1, 6);
        int[] taken = {-99999, 99999, 0, -1, NONE, 65536};
        for (int place = 0; place < 6; place++) {
            Trial.due(1, y, "mark", 3, place, taken[place]);
        }
        holds(y, 3, -99999, 99999, 0, -1, KIND, 65536);
        Trial.due(BAD, y, "mark", 3, 0, 100000);
        Trial.due(BAD, y, "mark", 3, 4, -100000);
        holds(y, 3, -99999, 99999, 0, -1, KIND, 65536);
        Trial.due(1, y, "mark", 3, 4, 3);
        Trial.due(1, y, "mark", 3, 5, NONE);
        holds(y, 3, -99999, 99999, 0, -1, 3, KIND);
        Trial.on("promise 33, INDEX: the last place and the one behind it");
        DominoKing z = new DominoKing();
        z.sheet(2, 0, 24);
        Trial.due(1, z, "mark", 2, 23, 5);
        Trial.due(1, z, "mark", 2, 0, 6);
        Trial.due(INDEX, z, "mark", 2, 24, 5);
        Trial.due(INDEX, z, "mark", 2, -1, 5);
    }

    private static void pours() {
        Trial.on("promise 34, each held within 0 .. 99; NO NUMBER stays: how many are otherwise then");
        int[] v = {-99999, -1, 0, 1, 50, 98, 99, 100, 99999, NONE};
        int[] held = {0, 0, 0, 1, 50, 98, 99, 99, 99, 50};
        DominoKing x = new DominoKing();
        write(x, 0, 1, v);
        Trial.due(8, x, "pour", 0);
        Trial.due(0, x, "pour", 0);
        for (int cell = 0; cell < 24; cell++) {
            Trial.due(cell < 10 ? held[cell] : 50, x, "want", cell, 50);
        }
        write(x, 1, 0, -32768, 32767, 50);
        Trial.due(2, x, "pour", 1);
        Trial.due(0, x, "want", 0, 50);
        Trial.due(99, x, "want", 1, 50);
        Trial.on("promise 34, beyond the SHEET they stay: of every number of places");
        for (int n = 0; n <= 24; n++) {
            DominoKing y = new DominoKing();
            y.sheet(0, 0, n);
            Trial.due(n, y, "pour", 0);
            for (int cell = 0; cell < 24; cell++) {
                Trial.due(cell < n ? 0 : 50, y, "want", cell, 50);
            }
        }
    }

    private static void reads() {
        Trial.on("promise 35, the first place at which it is not at() of that PLACE, -1 where it holds nothing");
        for (int wrong = 0; wrong < 12; wrong++) {
            DominoKing x = new DominoKing();
            Trial.stones(x, 12, 0, 1, 1);
            int[] row = new int[12];
            for (int place = 0; place < 12; place++) {
                row[place] = place % 3 == 0 ? -1 : 11 - place;
                if (row[place] >= 0) {
                    x.put(row[place], place, 0);
                }
            }
            write(x, 0, 0, row);
            Trial.due(NONE, x, "reads", 0);
            write(x, 1, 1, row);
            Trial.due(NONE, x, "reads", 1);
            x.mark(0, wrong, row[wrong] == -1 ? 0 : -1);
            Trial.due(wrong, x, "reads", 0);
            x.mark(0, 11, 77);
            Trial.due(wrong, x, "reads", 0);
            x.mark(1, wrong, NONE);
            Trial.due(NONE, x, "reads", 1);
            x.box(11 - wrong);
            Trial.due(NONE, x, "reads", 1);
        }
        Trial.on("promise 35, of places 12 and more all numbers are not");
        for (int n = 12; n <= 24; n++) {
            DominoKing x = new DominoKing();
            int[] row = new int[n];
            Arrays.fill(row, -1);
            write(x, 0, 1, row);
            Trial.due(n == 12 ? NONE : 12, x, "reads", 0);
            for (int place = 12; place < n; place++) {
                x.mark(0, place, NONE);
                Trial.due(place + 1 < n ? place + 1 : NONE, x, "reads", 0);
            }
        }
        Trial.on("promise 35, NONE: a row without places, or of no numbers");
        DominoKing x = new DominoKing();
        x.sheet(0, 0, 0);
        Trial.due(NONE, x, "reads", 0);
        write(x, 1, 1, NONE, NONE);
        Trial.due(NONE, x, "reads", 1);
        Trial.on("promise 35, STONE 0 is 0, and nothing is -1");
        x.stone(0, 0, 0);
        x.put(0, 1, 0);
        write(x, 2, 0, -1, 0, -1);
        Trial.due(NONE, x, "reads", 2);
        write(x, 2, 0, 0, 0, -1);
        Trial.due(0, x, "reads", 2);
        write(x, 2, 0, -1, -1, -1);
        Trial.due(1, x, "reads", 2);
    }

    private static void copies() {
        Trial.on("promise 36, so many places come to another one: many");
        DominoKing x = new DominoKing();
        write(x, 0, 0, 1, 2, 3, 4, 5);
        write(x, 1, 0, 6, 7, 8);
        Trial.due(3, x, "copy", 0, 2, 1, 0, 3);
        holds(x, 1, 3, 4, 5);
        holds(x, 0, 1, 2, 3, 4, 5);
        Trial.due(1, x, "copy", 0, 0, 1, 2, 1);
        holds(x, 1, 3, 4, 1);
        Trial.due(3, x, "copy", 1, 0, 0, 1, 3);
        holds(x, 0, 1, 3, 4, 1, 5);
        Trial.due(0, x, "copy", 0, 5, 1, 3, 0);
        Trial.due(0, x, "copy", 0, 0, 1, 0, 0);
        holds(x, 1, 3, 4, 1);
        Trial.on("promise 36, or the same, as they were: both ways over each other");
        write(x, 0, 0, 1, 2, 3, 4, 5);
        Trial.due(4, x, "copy", 0, 0, 0, 1, 4);
        holds(x, 0, 1, 1, 2, 3, 4);
        write(x, 0, 0, 1, 2, 3, 4, 5);
        Trial.due(4, x, "copy", 0, 1, 0, 0, 4);
        holds(x, 0, 2, 3, 4, 5, 5);
        Trial.due(5, x, "copy", 0, 0, 0, 0, 5);
        holds(x, 0, 2, 3, 4, 5, 5);
        Trial.on("promise 36, NO NUMBER comes along");
        write(x, 2, 1, NONE, 5, -99999);
        write(x, 3, 1, 1, NONE, 3, 4);
        Trial.due(3, x, "copy", 2, 0, 3, 1, 3);
        holds(x, 3, 1, KIND, 5, -99999);
        Trial.on("promise 36, a whole SHEET of 24");
        x.sheet(0, 1, 24);
        x.sheet(1, 1, 24);
        x.mark(0, 0, 9);
        x.mark(0, 23, 8);
        Trial.due(24, x, "copy", 0, 0, 1, 0, 24);
        Trial.due(1, x, "copy", 0, 23, 1, 22, 1);
        x.lay(0, 2, 1);
        Trial.due(9, x, "item", 0, 0);
        Trial.due(8, x, "item", 0, 22);
        Trial.due(8, x, "item", 0, 23);
        Trial.due(INDEX, x, "copy", 0, 0, 1, 0, 25);
        Trial.due(INDEX, x, "copy", 0, 24, 1, 0, 1);
        Trial.due(0, x, "copy", 0, 24, 1, 24, 0);
    }

    // ---- slots

    private static void lays() {
        Trial.on("promise 37, what it held (0 .. 3), of every SLOT");
        for (int slot = 0; slot < 5; slot++) {
            DominoKing x = new DominoKing();
            x.stone(0, 1, 1);
            x.sheet(3, 0, 0);
            int held = 0;
            for (int thing : new int[] {0, 1, 1, 2, 2, 3, 3, 0, 0, 2, 1, 3, 2, 0, 3, 1, 0}) {
                Trial.due(held, x, "lay", slot, thing, thing == 2 ? 3 : 0);
                held = thing;
            }
            for (int other = 0; other < 5; other++) {
                Trial.due(0, x, "lay", other, 0, 0);
            }
        }
        Trial.on("promise 37, STONE k, SHEET k: the last that there is; a number: any");
        DominoKing x = new DominoKing();
        Trial.due(BAD, x, "lay", 0, 1, 0);
        Trial.stones(x, 12, 2, 6, 6);
        Trial.due(0, x, "lay", 0, 1, 11);
        Trial.due(33, x, "ask", 0, 2);
        Trial.due(BAD, x, "lay", 0, 1, 12);
        for (int k : new int[] {LEAST, MOST, 0, NONE, -1}) {
            x.lay(1, 3, k);
            Trial.due(k % 1000, x, "rest", 1, 1000);
            Trial.due(3, x, "lay", 1, 0, k);
            Trial.due(0, x, "lay", 1, 0, k);
        }
    }

    private static void asItIsThen() {
        Trial.on("part 5, a STONE (as it is then, for good)");
        DominoKing x = new DominoKing();
        x.keep();
        x.stone(3, 6, 6);
        x.lay(0, 1, 0);
        x.turns(0, 5);
        Trial.due(146, x, "ask", 0, 3);
        x.lay(1, 1, 0);
        Trial.due(3, x, "ask", 1, 5);
        Trial.due(0, x, "back");
        Trial.due(BAD, x, "told", 0, 0);
        Trial.due(146, x, "ask", 0, 0);
        Trial.due(146, x, "ask", 0, 1);
        Trial.due(3, x, "ask", 1, 0);
        Trial.due(KIND, x, "ask", 1, 3);
        Trial.on("part 5, a SHEET (a row of its own, as it was then)");
        write(x, 0, 0, 4, 5);
        x.lay(2, 2, 0);
        x.mark(0, 0, 9);
        Trial.due(4, x, "item", 2, 0);
        x.lay(3, 2, 0);
        x.sheet(0, 1, 24);
        Trial.due(4, x, "item", 2, 0);
        Trial.due(9, x, "item", 3, 0);
        Trial.due(INDEX, x, "item", 2, 2);
        x.sheet(0, -1, 0);
        Trial.due(5, x, "item", 2, 1);
        Trial.on("part 5, a SLOT's row is its own, behind a STONE that was there");
        x.lay(2, 3, 8);
        Trial.due(KIND, x, "item", 2, 0);
        Trial.due(KIND, x, "ask", 2, 0);
        x.lay(0, 3, 8);
        Trial.due(KIND, x, "ask", 0, 0);
    }

    private static void itemsAndRests() {
        Trial.on("promise 39, the first and the last place");
        DominoKing x = new DominoKing();
        for (int n : new int[] {0, 1, 24}) {
            x.sheet(0, 1, n);
            x.lay(0, 2, 0);
            Trial.due(INDEX, x, "item", 0, -1);
            Trial.due(n == 0 ? INDEX : 0, x, "item", 0, 0);
            Trial.due(n == 0 ? INDEX : 0, x, "item", 0, n - 1);
            Trial.due(INDEX, x, "item", 0, n);
        }
        Trial.on("promise 40, the rest of the number by n, cut towards 0");
        int[][] of = {
            {7, 3, 1}, {-7, 3, -1}, {7, -3, 1}, {-7, -3, -1}, {6, 3, 0}, {0, 5, 0}, {5, 7, 5}, {-5, 7, -5},
            {LEAST, -1, 0}, {LEAST, 1, 0}, {MOST, -1, 0}, {LEAST, MOST, -1}, {MOST, LEAST, MOST}, {LEAST, LEAST, 0},
            {LEAST, 10, -8}, {MOST, 10, 7}};
        for (int[] row : of) {
            x.lay(1, 3, row[0]);
            Trial.due(row[2], x, "rest", 1, row[1]);
            Trial.due(NO, x, "rest", 1, 0);
        }
    }

    // ---- rows

    private static void tells() {
        Trial.on("promise 41, how many wait; FULL: 60 wait");
        DominoKing x = new DominoKing();
        for (int i = 1; i <= 60; i++) {
            Trial.due(i, x, "tell", i % 2 == 0 ? LEAST : MOST);
            Trial.due(i, x, "count", 5);
        }
        Trial.due(FULL, x, "tell", 0);
        Trial.due(60, x, "count", 5);
        x.keep();
        x.back();
        Trial.due(60, x, "count", 5);
        x.check(1);
        Trial.due(0, x, "count", 5);
        Trial.due(1, x, "tell", 0);
    }

    /** An object with an image that is some days old, and the rows of n days from it on. */
    private static DominoKing kept() {
        DominoKing x = new DominoKing();
        x.seed(2024);
        x.deal(12);
        x.wind(80);
        x.days(2);
        x.keep();
        return x;
    }

    private static int[] daysTold(DominoKing x, int n) {
        int[] rows = new int[2 * n];
        for (int i = 0; i < n; i++) {
            x.days(1);
            rows[2 * i] = x.king(0);
            rows[2 * i + 1] = x.king(1);
        }
        return rows;
    }

    private static void tellAll(DominoKing x, int[] rows, int many) {
        for (int i = 0; i < many; i++) {
            x.tell(rows[i]);
        }
    }

    private static void checks() {
        int[] rows = daysTold(kept(), 30);
        Trial.on("promise 42, all are as told: 0, of 1 .. 30 DAYS; missing; one too many");
        for (int n = 1; n <= 30; n++) {
            DominoKing x = kept();
            tellAll(x, rows, 2 * n);
            Trial.due(0, x, "check", n);
            Trial.due(1, x, "check", n);
            tellAll(x, rows, 2 * n - 1);
            Trial.due(2 * n, x, "check", n);
            tellAll(x, rows, 2 * n - 2);
            Trial.due(2 * n - 1, x, "check", n);
            tellAll(x, rows, Math.min(60, 2 * n + 1));
            Trial.due(n < 30 ? 2 * n + 1 : 0, x, "check", n);
            tellAll(x, rows, Math.min(60, 2 * n + 2));
            Trial.due(n < 30 ? 2 * n + 1 : 0, x, "check", n);
        }
        Trial.on("promise 42, 1 and how many stand right ahead of the first that is not");
        for (int spoilt = 0; spoilt < 60; spoilt++) {
            int[] other = rows.clone();
            other[spoilt]++;
            DominoKing x = kept();
            tellAll(x, other, 60);
            Trial.due(spoilt + 1, x, "check", 30);
            other[59]--;
            tellAll(x, other, 60);
            Trial.due(spoilt == 59 ? 0 : spoilt + 1, x, "check", 30);
        }
        Trial.on("promise 42, two by two: PICTURE ahead of MATCHES");
        DominoKing x = kept();
        x.tell(rows[1]);
        x.tell(rows[0]);
        Trial.due(1, x, "check", 1);
    }

    private static void checksByTheImage() {
        Trial.on("promise 42, by THE IMAGE, whatever has become since");
        int[] rows = daysTold(kept(), 5);
        DominoKing x = kept();
        x.days(7);
        x.seed(1);
        x.wind(0);
        x.want(0, 0);
        Trial.textOf(x, "dark 0");
        x.box(0);
        tellAll(x, rows, 10);
        Trial.due(0, x, "check", 5);
        Trial.due(9, x, "count", 1);
        Trial.due(1, x, "seed", 1);
        Trial.on("promise 42, the last IMAGE counts");
        x.keep();
        tellAll(x, rows, 10);
        Trial.due("another image", x.check(5) != 0 ? 1 : 0, 1);
        Trial.on("promise 42, the image's own TEXT counts");
        DominoKing law = new DominoKing();
        law.stone(0, 1, 1);
        law.put(0, 0, 0);
        Trial.textOf(law, "dark 40");
        law.keep();
        Trial.textOf(law, "dark 50");
        law.tell(22 * 99 + 20);
        law.tell(0);
        Trial.due(0, law, "check", 1);
        Trial.due(22 * 99, law, "king", 0);
    }

    private static void checksAtTheLastDay() {
        Trial.on("promise 42, fewer, if THE DAY would be above 9999");
        for (int left = 0; left <= 3; left++) {
            for (int n : new int[] {1, 2, 3, 30}) {
                DominoKing x = Trial.atDay(9999 - left);
                x.keep();
                int days = Math.min(n, left);
                Trial.due(days == 0 ? 0 : 1, x, "check", n);
                for (int i = 0; i < days; i++) {
                    x.tell(2376);
                    x.tell(0);
                }
                Trial.due(0, x, "check", n);
                for (int i = 0; i < days; i++) {
                    x.tell(2376);
                    x.tell(0);
                }
                x.tell(2376);
                Trial.due(2 * days + 1, x, "check", n);
            }
        }
        Trial.on("promise 42, the image's DAY, not THE DAY");
        DominoKing x = new DominoKing();
        x.keep();
        for (int i = 0; i < 100; i++) {
            x.days(100);
        }
        x.tell(2376);
        x.tell(0);
        x.tell(2376);
        x.tell(0);
        Trial.due(0, x, "check", 2);
        Trial.due(9999, x, "count", 1);
    }

    // ---- images

    private static void images() {
        Trial.on("promise 43, how many STONES; promise 44, again and again");
        for (int many = 0; many <= 12; many += 4) {
            DominoKing x = new DominoKing();
            Trial.due(NO, x, "back");
            Trial.stones(x, many, 3, 2, 4);
            Trial.due(many, x, "keep");
            for (int time = 0; time < 3; time++) {
                x.deal(12);
                Trial.due(12, x, "count", 0);
                Trial.due(many, x, "back");
                Trial.due(many, x, "count", 0);
                Trial.due(BAD, x, "told", many, 0);
                Trial.due(1, x, "count", 7);
            }
            Trial.due(many, x, "back");
        }
        Trial.on("promise 43, the image stays as it was kept, and the last one counts");
        DominoKing x = new DominoKing();
        x.stone(0, 1, 1);
        x.keep();
        x.put(0, 5, 1);
        x.want(0, 9);
        x.back();
        Trial.due(12, x, "told", 0, 3);
        Trial.due(0, x, "told", 0, 4);
        Trial.due(50, x, "want", 0, 8);
        Trial.due(1, x, "keep");
        x.want(0, 7);
        x.turns(0, 5);
        x.back();
        Trial.due(8, x, "want", 0, 50);
        Trial.due(0, x, "told", 0, 0);
    }

    private static void anImageKeeps() {
        Trial.on("part 5, AN IMAGE keeps all but SHEETS, SLOTS, numbers that wait, THE TAPE");
        DominoKing x = new DominoKing();
        x.stone(1, 2, 3);
        write(x, 0, 0, 1, 2);
        x.lay(0, 3, 10);
        x.tell(5);
        x.feed(0, 0, 0);
        x.wind(9);
        x.seed(77);
        Trial.due(1, x, "keep");
        write(x, 0, 1, 5, 6, 7);
        write(x, 1, 0, 4);
        x.lay(0, 3, 19);
        x.lay(1, 1, 0);
        x.tell(6);
        x.feed(0, 0, 0);
        x.wind(90);
        x.days(3);
        x.turns(0, 4);
        Trial.due(1, x, "back");
        Trial.due(9, x, "count", 2);
        Trial.due(77, x, "count", 7);
        Trial.due(0, x, "count", 1);
        Trial.due(1, x, "count", 3);
        Trial.due(1, x, "told", 0, 0);
        Trial.due(2, x, "count", 5);
        Trial.due(24, x, "count", 6);
        Trial.due(9, x, "rest", 0, 10);
        Trial.due(30, x, "ask", 1, 0);
        holds(x, 0, 5, 6, 7);
        holds(x, 1, 4);
        Trial.on("part 5, DARK is as the image's TEXT and KIND tell");
        DominoKing y = Trial.darkRoom();
        y.stone(0, 2, 2);
        y.keep();
        Trial.textOf(y, "dark 9");
        y.turns(0, 2);
        Trial.due(180, y, "off", 0, 0, 0);
        y.back();
        Trial.due(60, y, "off", 0, 0, 0);
        Trial.due(0, y, "count", 4);
        Trial.due(NONE, y, "why", 0);
        Trial.due(24 * 99, y, "fee");
    }

    private static void counts() {
        Trial.on("promise 45, 0 .. 7, each at its bounds");
        DominoKing x = new DominoKing();
        Trial.stones(x, 12, 0, 0, 0);
        x.wind(100);
        x.seed(LEAST);
        int[] due = {12, 0, 100, 12, 0, 0, 0, LEAST};
        for (int what = 0; what < 8; what++) {
            Trial.due(due[what], x, "count", what);
        }
        for (int i = 0; i < 12; i++) {
            x.put(i, i, 0);
        }
        Trial.due(0, x, "count", 3);
        x.seed(MOST);
        Trial.due(MOST, x, "count", 7);
        Trial.due(9999, Trial.atDay(9999), "count", 1);
    }

    public static void main(String[] args) {
        sheets();
        marks();
        pours();
        reads();
        copies();
        lays();
        asItIsThen();
        itemsAndRests();
        tells();
        checks();
        checksByTheImage();
        checksAtTheLastDay();
        images();
        anImageKeeps();
        counts();
        Trial.end();
    }
}
