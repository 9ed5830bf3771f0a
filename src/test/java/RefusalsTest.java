import java.util.ArrayList;
import java.util.List;
import java.util.function.Supplier;

/**
 * Every refused call: that it answers what the document names, which of several refusals stands first, and that it
 * changes nothing but what the document tells. Two like objects are made, one of them takes the call, and all that can
 * be asked of both must be the same behind it.
 */
public final class RefusalsTest {
    private static final int BAD = Trial.BAD;
    private static final int NO = Trial.NO;
    private static final int FULL = Trial.FULL;
    private static final int NONE = Trial.NONE;
    private static final int NOTHING = Trial.NOTHING;
    private static final int KIND = Trial.KIND;
    private static final int INDEX = Trial.INDEX;
    private static final int SIZE = Trial.SIZE;
    private static final int LEAST = Trial.LEAST;
    private static final int MOST = Trial.MOST;

    /** What is asked behind a call, in parts: an object has 512 calls. */
    private static final int PARTS = 6;
    private static final int TAPE = 3;
    private static final int WAITING = 4;

    private static Supplier<DominoKing> world = DominoKing::new;

    // ---- the worlds

    /** Seven stones (0 to 3 laid), a law of each key, an image of another day, sheets, slots, four numbers, a tape. */
    private static DominoKing inUse() {
        DominoKing x = new DominoKing();
        for (int i = 0; i < 7; i++) {
            x.stone(i % 6, i % 7, (2 * i + 1) % 7);
        }
        x.put(0, 0, 1);
        x.put(1, 1, 0);
        x.seed(777);
        x.wind(60);
        x.keep();
        tellDays(x, 2);
        x.back();
        x.put(2, 5, 1);
        x.put(3, 11, 0);
        x.turns(6, 3);
        x.want(0, 7);
        x.want(23, 93);
        x.wind(35);
        Trial.textOf(x, "dark s*11+r*3");
        Trial.textOf(x, "fee p+m*5");
        Trial.textOf(x, "fine l-r+t*9");
        x.seed(-12345);
        sheetsAndSlots(x);
        Trial.type(x, "fine l*7+r");
        return x;
    }

    /** Brings the rows of the image's days to wait; goes on from there. */
    private static void tellDays(DominoKing x, int days) {
        for (int i = 0; i < days; i++) {
            x.days(1);
            x.tell(x.king(0));
            x.tell(x.king(1));
        }
    }

    /** Sheets: 0 six shorts, 1 five floats with NO NUMBER at 2, 2 missing, 3 no places. Slots: stone, sheet, number, nothing, sheet. */
    private static void sheetsAndSlots(DominoKing x) {
        x.sheet(0, 0, 6);
        x.sheet(1, 1, 5);
        x.sheet(3, 0, 0);
        for (int i = 0; i < 5; i++) {
            x.mark(0, i, 100 * i - 150);
            x.mark(1, i, i == 2 ? NONE : 7 * i);
        }
        x.lay(0, 1, 6);
        x.lay(1, 2, 1);
        x.lay(2, 3, -1001);
        x.lay(4, 2, 0);
    }

    /** Twelve stones, fourteen texts, 96 bytes, 60 numbers; an image of no stones. */
    private static DominoKing full() {
        DominoKing x = new DominoKing();
        x.keep();
        for (int i = 0; i < 30; i++) {
            x.tell(2376);
            x.tell(0);
        }
        for (int i = 0; i < 12; i++) {
            x.stone(i % 6, 6 - i % 7, i % 7);
        }
        x.put(0, 0, 0);
        for (int i = 0; i < 14; i++) {
            Trial.textOf(x, (i % 3 == 0 ? "fee " : i % 3 == 1 ? "dark " : "fine ") + i);
        }
        for (int i = 0; i < 8; i++) {
            x.feed(0x20202020, 0x20202020, i == 0 ? 0x66656520 : i == 7 ? 0x20202039 : 0x20202020);
        }
        sheetsAndSlots(x);
        return x;
    }

    private static DominoKing atTheLastDay() {
        DominoKing x = Trial.atDay(9999);
        x.stone(0, 1, 2);
        x.keep();
        return x;
    }

    // ---- what can be asked

    private static List<Integer> askPart(DominoKing x, int part) {
        List<Integer> answers = new ArrayList<>();
        switch (part) {
            case 0: askStones(x, answers); break;
            case 1: askCellsAndTexts(x, answers); break;
            case 2: askSheetsAndSlots(x, answers); break;
            case TAPE: askTape(x, answers); break;
            case WAITING: askWaiting(x, answers); break;
            default:
                answers.add(x.back());
                askStones(x, answers);
                askCellsAndTexts(x, answers);
                break;
        }
        return answers;
    }

    private static void askStones(DominoKing x, List<Integer> answers) {
        for (int what : new int[] {0, 1, 2, 3, 4, 7}) {
            answers.add(x.count(what));
        }
        for (int stone = 0; stone < 12; stone++) {
            for (int what = 0; what < 5; what++) {
                answers.add(x.told(stone, what));
            }
        }
        for (int place = 0; place < 12; place++) {
            answers.add(x.at(place));
        }
        for (int what = 0; what < 4; what++) {
            answers.add(x.king(what));
        }
    }

    private static void askCellsAndTexts(DominoKing x, List<Integer> answers) {
        answers.add(x.fee());
        for (int stone = 0; stone < 12; stone++) {
            answers.add(x.fine(stone));
            answers.add(x.off(stone, 4, 0));
        }
        for (int key = 0; key < 3; key++) {
            answers.add(x.why(key));
        }
        for (int text = 0; text < 14; text++) {
            answers.add(x.textTold(text, 0));
            answers.add(x.textTold(text, 1));
        }
        for (int cell = 0; cell < 24; cell++) {
            answers.add(x.want(cell, 0));
        }
    }

    private static void askSheetsAndSlots(DominoKing x, List<Integer> answers) {
        for (int slot = 0; slot < 5; slot++) {
            for (int kind = 0; kind < 6; kind++) {
                answers.add(x.ask(slot, kind));
            }
            for (int place = 0; place < 8; place++) {
                answers.add(x.item(slot, place));
            }
            answers.add(x.rest(slot, 1000003));
        }
        for (int sheet = 0; sheet < 4; sheet++) {
            answers.add(x.lay(3, 2, sheet));
            for (int place = 0; place < 25; place++) {
                answers.add(x.item(3, place));
            }
        }
    }

    private static void askTape(DominoKing x, List<Integer> answers) {
        answers.add(x.count(6));
        answers.add(x.text());
        answers.add(x.fee());
        answers.add(x.fine(1));
    }

    private static void askWaiting(DominoKing x, List<Integer> answers) {
        int many = x.count(5);
        answers.add(many);
        answers.add(x.check(Math.max(1, many / 2)));
    }

    // ---- the trials

    /** The call answers so, and all is as if it had not been. */
    private static void refused(int want, String name, int... args) {
        changesNothingBut(-1, want, name, args);
    }

    /** The same, but for one part that the document lets the call use up. */
    private static void changesNothingBut(int usedUp, int want, String name, int... args) {
        for (int part = 0; part < PARTS; part++) {
            DominoKing taken = world.get();
            DominoKing spared = world.get();
            Trial.due(want, taken, name, args);
            if (part != usedUp) {
                int same = askPart(taken, part).equals(askPart(spared, part)) ? 1 : 0;
                Trial.due(Trial.told(name, args) + " leaves part " + part + " as it was", same, 1);
            }
        }
    }

    /** Whatever it answers, nothing changes. */
    private static void onlyTold(String name, int... args) {
        refused(Trial.answer(world.get(), name, args), name, args);
    }

    // ---- stones, cells

    private static void stones() {
        Trial.on("promise 2, BAD");
        world = RefusalsTest::inUse;
        for (int v : new int[] {-1, 6, LEAST, MOST}) {
            refused(BAD, "stone", v, 0, 0);
        }
        for (int v : new int[] {-1, 7, LEAST, MOST}) {
            refused(BAD, "stone", 0, v, 0);
            refused(BAD, "stone", 0, 0, v);
        }
        Trial.on("promise 2, FULL; BAD stands first");
        world = RefusalsTest::full;
        refused(FULL, "stone", 0, 0, 0);
        refused(FULL, "stone", 5, 6, 6);
        refused(BAD, "stone", 6, 0, 0);
        refused(BAD, "stone", 0, 7, 0);
        refused(BAD, "stone", 0, 0, 7);
    }

    private static void stonesToldAndOff() {
        world = RefusalsTest::inUse;
        Trial.on("promise 3, BAD");
        for (int v : new int[] {-1, 7, LEAST, MOST}) {
            refused(BAD, "told", v, 0);
            refused(BAD, "told", 0, v);
        }
        Trial.on("promise 4, BAD");
        for (int v : new int[] {-1, 7, LEAST, MOST}) {
            refused(BAD, "off", v, 0, 0);
        }
        for (int v : new int[] {-1, 12, LEAST, MOST}) {
            refused(BAD, "off", 0, v, 0);
        }
        for (int v : new int[] {-1, 2, LEAST, MOST}) {
            refused(BAD, "off", 0, 0, v);
        }
    }

    private static void kinds() {
        world = RefusalsTest::inUse;
        for (String name : new String[] {"as", "turns"}) {
            Trial.on(name.equals("as") ? "promise 5, BAD" : "promise 6, BAD");
            for (int v : new int[] {-1, 7, LEAST, MOST}) {
                refused(BAD, name, v, 0);
            }
            for (int v : new int[] {-1, 6, LEAST, MOST}) {
                refused(BAD, name, 0, v);
            }
        }
        Trial.on("promise 5, KIND");
        refused(KIND, "as", 0, 1);
        refused(KIND, "as", 1, 3);
        refused(KIND, "as", 4, 1);
    }

    private static void putAndBox() {
        world = RefusalsTest::inUse;
        Trial.on("promise 7, BAD");
        for (int v : new int[] {-1, 7, LEAST, MOST}) {
            refused(BAD, "put", v, 8, 0);
        }
        for (int v : new int[] {-1, 12, LEAST, MOST}) {
            refused(BAD, "put", 4, v, 0);
        }
        for (int v : new int[] {-1, 2, LEAST, MOST}) {
            refused(BAD, "put", 4, 8, v);
        }
        Trial.on("promise 7, NO; BAD stands first");
        refused(NO, "put", 4, 0, 0);
        refused(NO, "put", 4, 11, 1);
        refused(NO, "put", 0, 1, 0);
        refused(BAD, "put", 7, 0, 0);
        refused(BAD, "put", 4, 0, 2);
        refused(BAD, "put", 4, 11, -1);
        Trial.on("promise 8, BAD");
        for (int v : new int[] {-1, 7, LEAST, MOST}) {
            refused(BAD, "box", v);
        }
    }

    private static void cellsAndLots() {
        world = RefusalsTest::inUse;
        Trial.on("promise 9, BAD");
        for (int v : new int[] {-1, 24, LEAST, MOST}) {
            refused(BAD, "want", v, 5);
        }
        for (int v : new int[] {-1, 100, LEAST, MOST}) {
            refused(BAD, "want", 0, v);
            refused(BAD, "want", 23, v);
        }
        Trial.on("promise 10, BAD");
        for (int v : new int[] {-1, 101, LEAST, MOST}) {
            refused(BAD, "wind", v);
        }
        Trial.on("promise 11, BAD");
        for (int v : new int[] {0, -1, 13, LEAST, MOST}) {
            refused(BAD, "deal", v);
        }
        Trial.on("promise 11, no room: none come, no draws; BAD all the same");
        world = RefusalsTest::full;
        refused(0, "deal", 1);
        refused(0, "deal", 12);
        refused(BAD, "deal", 13);
        refused(BAD, "deal", 0);
    }

    // ---- days

    private static void days() {
        world = RefusalsTest::inUse;
        Trial.on("promise 13, BAD");
        for (int v : new int[] {0, -1, 101, LEAST, MOST}) {
            refused(BAD, "days", v);
        }
        Trial.on("promise 13, no more than up to 9999; BAD all the same");
        world = RefusalsTest::atTheLastDay;
        refused(0, "days", 1);
        refused(0, "days", 100);
        refused(BAD, "days", 101);
        refused(BAD, "days", 0);
        world = RefusalsTest::inUse;
        Trial.on("promise 14, BAD");
        for (int v : new int[] {-1, 4, LEAST, MOST}) {
            refused(BAD, "king", v);
        }
        Trial.on("promise 15, BAD; NONE");
        for (int v : new int[] {-1, 12, LEAST, MOST}) {
            refused(BAD, "at", v);
        }
        refused(NONE, "at", 2);
    }

    // ---- what is best, what will be

    private static void bests() {
        world = RefusalsTest::inUse;
        Trial.on("promise 16, BAD");
        for (int v : new int[] {0, -1, 7, LEAST, MOST}) {
            refused(BAD, "best", v, 0);
        }
        for (int v : new int[] {-1, 2, LEAST, MOST}) {
            refused(BAD, "best", 1, v);
        }
        Trial.on("promise 17, BAD");
        for (int v : new int[] {-1, 12, LEAST, MOST}) {
            refused(BAD, "bestFor", v, 0);
        }
        for (int v : new int[] {-1, 2, LEAST, MOST}) {
            refused(BAD, "bestFor", 0, v);
        }
        Trial.on("promise 19, BAD");
        for (int v : new int[] {-1, 12, LEAST, MOST}) {
            refused(BAD, "knocked", v);
        }
        Trial.on("promise 20, BAD");
        for (int v : new int[] {-1, 2, LEAST, MOST}) {
            refused(BAD, "push", v);
        }
        Trial.on("promises 16, 17, 18: NONE of no stones; BAD stands first");
        world = DominoKing::new;
        refused(NONE, "best", 1, 0);
        refused(NONE, "best", 6, 1);
        refused(BAD, "best", 7, 0);
        refused(BAD, "best", 1, 2);
        refused(NONE, "bestFor", 0, 0);
        refused(NONE, "bestFor", 11, 1);
        refused(BAD, "bestFor", 12, 0);
        refused(BAD, "bestFor", 0, 2);
        refused(NONE, "swap");
    }

    private static void whatWillBe() {
        world = RefusalsTest::inUse;
        Trial.on("promise 21, BAD");
        for (int v : new int[] {-1, 101, LEAST, MOST}) {
            refused(BAD, "behind", v, 0);
        }
        for (int v : new int[] {-1, 15, LEAST, MOST}) {
            refused(BAD, "behind", 0, v);
        }
        Trial.on("promise 23, BAD");
        for (int v : new int[] {-1, 61, LEAST, MOST}) {
            refused(BAD, "lost", v, 0);
        }
        for (int v : new int[] {-1, 2, LEAST, MOST}) {
            refused(BAD, "lost", 0, v);
        }
        Trial.on("promise 24, BAD; NOTHING; BAD stands first");
        for (int v : new int[] {-1, 4, LEAST, MOST}) {
            refused(BAD, "seen", v, 0);
        }
        for (int v : new int[] {-1, 2, LEAST, MOST}) {
            refused(BAD, "seen", 0, v);
            refused(BAD, "seen", 2, v);
        }
        refused(NOTHING, "seen", 2, 0);
        refused(NOTHING, "seen", 2, 1);
        Trial.on("promise 26, BAD");
        for (int v : new int[] {-1, 7, LEAST, MOST}) {
            refused(BAD, "fine", v);
        }
        Trial.on("promise 23, NONE of no stones; BAD stands first");
        world = DominoKing::new;
        refused(NONE, "lost", 0, 0);
        refused(NONE, "lost", 60, 1);
        refused(BAD, "lost", 61, 0);
        refused(BAD, "lost", 0, 2);
    }

    // ---- texts

    private static void tapes() {
        Trial.on("promise 27, FULL");
        world = RefusalsTest::full;
        refused(FULL, "feed", 0, 0, 0);
        world = () -> {
            DominoKing x = full();
            x.trim(85);
            return x;
        };
        refused(FULL, "feed", 0x31313131, 0x31313131, 0x31313131);
        Trial.on("promise 28, BAD");
        world = RefusalsTest::inUse;
        for (int v : new int[] {-1, 11, 96, LEAST, MOST}) {
            refused(BAD, "trim", v);
        }
        world = RefusalsTest::full;
        for (int v : new int[] {-1, 97}) {
            refused(BAD, "trim", v);
        }
        refused(96, "trim", 96);
    }

    private static void texts() {
        Trial.on("promise 29, a fault uses the tape up, and nothing else");
        world = () -> {
            DominoKing x = inUse();
            x.trim(0);
            Trial.type(x, "fee p+");
            return x;
        };
        changesNothingBut(TAPE, -106, "text");
        usesUpTheTape(-106);
        world = () -> {
            DominoKing x = inUse();
            x.trim(0);
            return x;
        };
        changesNothingBut(TAPE, -100, "text");
        Trial.on("promise 29, FULL uses the tape up, and nothing else");
        world = RefusalsTest::full;
        changesNothingBut(TAPE, FULL, "text");
        usesUpTheTape(FULL);
        Trial.on("promise 29, the fault stands ahead of FULL");
        world = () -> {
            DominoKing x = full();
            x.trim(95);
            return x;
        };
        changesNothingBut(TAPE, -195, "text");
        usesUpTheTape(-195);
    }

    private static void usesUpTheTape(int want) {
        DominoKing x = world.get();
        Trial.due(want, x, "text");
        Trial.due(0, x, "count", 6);
        Trial.due(-100, x, "text");
    }

    private static void textsTold() {
        world = RefusalsTest::inUse;
        Trial.on("promise 30, BAD");
        for (int v : new int[] {-1, 3, 14, LEAST, MOST}) {
            refused(BAD, "textTold", v, 0);
        }
        for (int v : new int[] {-1, 2, LEAST, MOST}) {
            refused(BAD, "textTold", 0, v);
        }
        Trial.on("promise 31, BAD; NONE");
        for (int v : new int[] {-1, 3, LEAST, MOST}) {
            refused(BAD, "why", v);
        }
        world = DominoKing::new;
        refused(BAD, "textTold", 0, 0);
        for (int key = 0; key < 3; key++) {
            refused(NONE, "why", key);
        }
    }

    // ---- sheets, slots

    private static void sheets() {
        world = RefusalsTest::inUse;
        Trial.on("promise 32, BAD: sheet, sort, n above 24; SIZE; BAD stands first");
        for (int v : new int[] {-1, 4, LEAST, MOST}) {
            refused(BAD, "sheet", v, 0, 3);
            refused(BAD, "sheet", v, -1, 0);
            refused(BAD, "sheet", v, 0, -1);
        }
        for (int v : new int[] {-2, 2, LEAST, MOST}) {
            refused(BAD, "sheet", 0, v, 3);
            refused(BAD, "sheet", 0, v, -1);
        }
        for (int v : new int[] {25, MOST}) {
            refused(BAD, "sheet", 0, 0, v);
            refused(BAD, "sheet", 1, 1, v);
            refused(BAD, "sheet", 2, 1, v);
        }
        for (int v : new int[] {-1, LEAST}) {
            refused(SIZE, "sheet", 0, 0, v);
            refused(SIZE, "sheet", 1, 1, v);
            refused(SIZE, "sheet", 2, 0, v);
        }
    }

    private static void marks() {
        world = RefusalsTest::inUse;
        Trial.on("promise 33, BAD: sheet, ahead of all others");
        for (int v : new int[] {-1, 4, LEAST, MOST}) {
            refused(BAD, "mark", v, 0, 1);
            refused(BAD, "mark", v, 99, NONE);
        }
        Trial.on("promise 33, NOTHING, ahead of INDEX, KIND, BAD: v");
        refused(NOTHING, "mark", 2, 0, 1);
        refused(NOTHING, "mark", 2, -1, NONE);
        refused(NOTHING, "mark", 2, 99, 100000);
        Trial.on("promise 33, INDEX, ahead of KIND, BAD: v");
        for (int v : new int[] {-1, 6, LEAST, MOST}) {
            refused(INDEX, "mark", 0, v, 1);
            refused(INDEX, "mark", 0, v, NONE);
        }
        for (int v : new int[] {-1, 5, LEAST, MOST}) {
            refused(INDEX, "mark", 1, v, 1);
            refused(INDEX, "mark", 1, v, 100000);
        }
        refused(INDEX, "mark", 3, 0, 1);
        Trial.on("promise 33, KIND: NONE in a row of shorts");
        refused(KIND, "mark", 0, 0, NONE);
        refused(KIND, "mark", 0, 5, NONE);
        Trial.on("promise 33, BAD: v of floats");
        for (int v : new int[] {-100000, 100000, NONE - 1, NONE + 1, BAD, LEAST, MOST}) {
            refused(BAD, "mark", 1, 0, v);
            refused(BAD, "mark", 1, 2, v);
        }
    }

    private static void poursReadsCopies() {
        world = RefusalsTest::inUse;
        for (String name : new String[] {"pour", "reads"}) {
            Trial.on(name.equals("pour") ? "promise 34, BAD; NOTHING" : "promise 35, BAD; NOTHING; NONE");
            for (int v : new int[] {-1, 4, LEAST, MOST}) {
                refused(BAD, name, v);
            }
            refused(NOTHING, name, 2);
        }
        refused(NONE, "reads", 3);
        Trial.on("promise 36, BAD, ahead of all others");
        for (int v : new int[] {-1, 4, LEAST, MOST}) {
            refused(BAD, "copy", v, 0, 0, 0, 1);
            refused(BAD, "copy", 0, 0, v, 0, 1);
            refused(BAD, "copy", v, 99, 2, 99, -1);
            refused(BAD, "copy", 2, 99, v, 99, -1);
        }
        Trial.on("promise 36, NOTHING, ahead of KIND and INDEX");
        refused(NOTHING, "copy", 2, 0, 0, 0, 1);
        refused(NOTHING, "copy", 0, 0, 2, 0, 1);
        refused(NOTHING, "copy", 2, 0, 2, 0, 0);
        refused(NOTHING, "copy", 1, 99, 2, -1, 99);
        Trial.on("promise 36, KIND, ahead of INDEX");
        refused(KIND, "copy", 0, 0, 1, 0, 1);
        refused(KIND, "copy", 1, 0, 0, 0, 0);
        refused(KIND, "copy", 1, 99, 0, -1, -1);
    }

    private static void copyIndex() {
        world = RefusalsTest::inUse;
        Trial.on("promise 36, INDEX");
        for (int v : new int[] {-1, 6, 7, LEAST, MOST}) {
            refused(INDEX, "copy", 0, v, 0, 0, 1);
            refused(INDEX, "copy", 0, 0, 0, v, 1);
        }
        for (int v : new int[] {-1, 7, LEAST, MOST}) {
            refused(INDEX, "copy", 0, 0, 0, 0, v);
            refused(INDEX, "copy", 0, v, 0, 0, 0);
            refused(INDEX, "copy", 0, 0, 0, v, 0);
        }
        refused(INDEX, "copy", 0, 1, 0, 0, 6);
        refused(INDEX, "copy", 0, 0, 0, 1, 6);
        refused(INDEX, "copy", 0, 5, 0, 0, 2);
        refused(INDEX, "copy", 0, 0, 3, 0, 1);
        refused(INDEX, "copy", 3, 0, 0, 0, 1);
        refused(INDEX, "copy", 0, MOST, 0, MOST, MOST);
        refused(INDEX, "copy", 0, MOST, 0, 0, LEAST);
        refused(INDEX, "copy", 0, 1, 0, 0, MOST);
        Trial.on("promise 36, no places: none come");
        refused(0, "copy", 0, 6, 0, 6, 0);
        refused(0, "copy", 3, 0, 0, 6, 0);
        refused(0, "copy", 1, 5, 1, 5, 0);
    }

    private static void slots() {
        world = RefusalsTest::inUse;
        Trial.on("promise 37, BAD: slot, thing, k; NOTHING");
        for (int v : new int[] {-1, 5, LEAST, MOST}) {
            refused(BAD, "lay", v, 0, 0);
            refused(BAD, "lay", v, 2, 2);
        }
        for (int v : new int[] {-1, 4, LEAST, MOST}) {
            refused(BAD, "lay", 0, v, 0);
            refused(BAD, "lay", 0, 2, v);
            refused(BAD, "lay", 3, 2, v);
        }
        for (int v : new int[] {-1, 7, LEAST, MOST}) {
            refused(BAD, "lay", 0, 1, v);
            refused(BAD, "lay", 3, 1, v);
        }
        for (int slot = 0; slot < 5; slot++) {
            refused(NOTHING, "lay", slot, 2, 2);
        }
        Trial.on("promise 38, BAD; NOTHING; KIND");
        for (int v : new int[] {-1, 5, LEAST, MOST}) {
            refused(BAD, "ask", v, 0);
        }
        for (int v : new int[] {-1, 6, LEAST, MOST}) {
            for (int slot = 0; slot < 5; slot++) {
                refused(BAD, "ask", slot, v);
            }
        }
        refused(NOTHING, "ask", 3, 0);
        refused(NOTHING, "ask", 3, 5);
        for (int slot : new int[] {1, 2, 4}) {
            refused(KIND, "ask", slot, 0);
        }
        refused(KIND, "ask", 0, 2);
        refused(KIND, "ask", 0, 5);
    }

    private static void itemsAndRests() {
        world = RefusalsTest::inUse;
        Trial.on("promise 39, BAD: slot; NOTHING; KIND: no SHEET; INDEX; KIND: NO NUMBER");
        for (int v : new int[] {-1, 5, LEAST, MOST}) {
            refused(BAD, "item", v, 0);
            refused(BAD, "item", v, -1);
        }
        refused(NOTHING, "item", 3, 0);
        refused(NOTHING, "item", 3, -1);
        for (int slot : new int[] {0, 2}) {
            refused(KIND, "item", slot, 0);
            refused(KIND, "item", slot, -1);
            refused(KIND, "item", slot, 99);
        }
        for (int v : new int[] {-1, 5, LEAST, MOST}) {
            refused(INDEX, "item", 1, v);
        }
        for (int v : new int[] {-1, 6, LEAST, MOST}) {
            refused(INDEX, "item", 4, v);
        }
        refused(KIND, "item", 1, 2);
        Trial.on("promise 40, BAD: slot; NOTHING; KIND; NO");
        for (int v : new int[] {-1, 5, LEAST, MOST}) {
            refused(BAD, "rest", v, 1);
            refused(BAD, "rest", v, 0);
        }
        refused(NOTHING, "rest", 3, 1);
        refused(NOTHING, "rest", 3, 0);
        for (int slot : new int[] {0, 1, 4}) {
            refused(KIND, "rest", slot, 1);
            refused(KIND, "rest", slot, 0);
        }
        refused(NO, "rest", 2, 0);
    }

    // ---- rows, images

    private static void rows() {
        Trial.on("promise 41, FULL");
        world = RefusalsTest::full;
        refused(FULL, "tell", 0);
        refused(FULL, "tell", 2376);
        Trial.on("promise 42, BAD: no number waits then");
        world = RefusalsTest::inUse;
        for (int v : new int[] {0, -1, 31, LEAST, MOST}) {
            changesNothingBut(WAITING, BAD, "check", v);
            leavesNoneWaiting(BAD, v);
        }
        Trial.on("promise 42, NO: no number waits then; BAD stands first");
        world = () -> {
            DominoKing x = new DominoKing();
            x.stone(2, 3, 4);
            x.tell(2376);
            x.tell(0);
            return x;
        };
        for (int v : new int[] {1, 30}) {
            changesNothingBut(WAITING, NO, "check", v);
            leavesNoneWaiting(NO, v);
        }
        for (int v : new int[] {0, 31}) {
            changesNothingBut(WAITING, BAD, "check", v);
            leavesNoneWaiting(BAD, v);
        }
        Trial.on("promise 42, what is checked changes nothing but the numbers that wait");
        world = RefusalsTest::inUse;
        for (int[] of : new int[][] {{2, 0}, {1, 3}, {30, 5}}) {
            changesNothingBut(WAITING, of[1], "check", of[0]);
            leavesNoneWaiting(of[1], of[0]);
        }
    }

    private static void leavesNoneWaiting(int want, int n) {
        DominoKing x = world.get();
        Trial.due(want, x, "check", n);
        Trial.due(0, x, "count", 5);
        Trial.due(1, x, "tell", 9);
    }

    private static void images() {
        Trial.on("promise 44, NO");
        world = () -> {
            DominoKing x = new DominoKing();
            x.stone(2, 3, 4);
            x.put(0, 7, 1);
            x.days(3);
            return x;
        };
        refused(NO, "back");
        Trial.on("promise 45, BAD");
        world = RefusalsTest::inUse;
        for (int v : new int[] {-1, 8, LEAST, MOST}) {
            refused(BAD, "count", v);
        }
    }

    // ---- all that there can be

    private static void beyondTheLast() {
        Trial.on("part 1, STONES, 12 at most: there is no STONE 12");
        world = RefusalsTest::full;
        for (int v : new int[] {-1, 12, 13}) {
            for (int what = 0; what < 7; what++) {
                refused(BAD, "told", v, what);
            }
            refused(BAD, "off", v, 0, 0);
            refused(BAD, "as", v, 0);
            refused(BAD, "turns", v, 0);
            refused(BAD, "put", v, 5, 0);
            refused(BAD, "box", v);
            refused(BAD, "fine", v);
            refused(BAD, "lay", 0, 1, v);
        }
        Trial.on("part 4, TEXTS, 14 at most: there is no TEXT 14");
        for (int v : new int[] {-1, 14, 15, 16}) {
            refused(BAD, "textTold", v, 0);
            refused(BAD, "textTold", v, 1);
        }
        Trial.on("no STONES, no TEXTS: there is no STONE 0, no TEXT 0");
        world = DominoKing::new;
        refused(BAD, "told", 0, 0);
        refused(BAD, "off", 0, 0, 0);
        refused(BAD, "as", 0, 0);
        refused(BAD, "turns", 0, 0);
        refused(BAD, "put", 0, 0, 0);
        refused(BAD, "box", 0);
        refused(BAD, "fine", 0);
        refused(BAD, "lay", 0, 1, 0);
        refused(BAD, "textTold", 0, 0);
    }

    // ---- what is only told

    private static void onlyThought() {
        Trial.on("part 3, all this is only thought: nothing changes");
        for (int m = 1; m <= 6; m++) {
            onlyTold("best", m, m % 2);
        }
        for (int place = 0; place < 12; place++) {
            onlyTold("bestFor", place, place % 2);
            onlyTold("knocked", place);
        }
        onlyTold("swap");
        onlyTold("push", 0);
        onlyTold("push", 1);
        for (int what = 0; what < 15; what++) {
            onlyTold("behind", 100 - 7 * what, what);
        }
        onlyTold("laid");
        for (int n : new int[] {0, 1, 60}) {
            onlyTold("lost", n, 0);
            onlyTold("lost", n, 1);
        }
        onlyTold("seen", 0, 0);
        onlyTold("seen", 1, 1);
        onlyTold("fee");
    }

    private static void onlyAsked() {
        Trial.on("what is asked changes nothing");
        for (int stone = 0; stone < 7; stone++) {
            onlyTold("told", stone, stone);
            onlyTold("off", stone, 11 - stone, stone % 2);
            onlyTold("as", stone, 0);
            onlyTold("fine", stone);
        }
        for (int what = 0; what < 4; what++) {
            onlyTold("king", what);
            onlyTold("at", what);
        }
        for (int i = 0; i < 3; i++) {
            onlyTold("why", i);
            onlyTold("textTold", i, i % 2);
        }
        onlyTold("reads", 0);
        onlyTold("reads", 1);
        onlyTold("ask", 0, 1);
        onlyTold("item", 1, 4);
        onlyTold("item", 4, 0);
        onlyTold("rest", 2, 10);
        for (int what = 0; what < 8; what++) {
            onlyTold("count", what);
        }
    }

    public static void main(String[] args) {
        stones();
        stonesToldAndOff();
        kinds();
        putAndBox();
        cellsAndLots();
        days();
        bests();
        whatWillBe();
        tapes();
        texts();
        textsTold();
        sheets();
        marks();
        poursReadsCopies();
        copyIndex();
        slots();
        itemsAndRests();
        rows();
        images();
        beyondTheLast();
        world = RefusalsTest::inUse;
        onlyThought();
        onlyAsked();
        Trial.end();
    }
}
