import java.lang.reflect.InvocationTargetException;
import java.lang.reflect.Method;
import java.util.Arrays;
import java.util.HashMap;
import java.util.Map;
import java.util.function.IntPredicate;

/** What the tests of bounds share: answers against what is due, texts by their bytes, draws by the document's words. */
final class Trial {
    static final int BAD = DominoKing.BAD;
    static final int NO = DominoKing.NO;
    static final int FULL = DominoKing.FULL;
    static final int NONE = DominoKing.NONE;
    static final int NOTHING = DominoKing.NOTHING;
    static final int KIND = DominoKing.KIND;
    static final int INDEX = DominoKing.INDEX;
    static final int SIZE = DominoKing.SIZE;
    static final int LEAST = Integer.MIN_VALUE;
    static final int MOST = Integer.MAX_VALUE;

    private static final Map<String, Method> CALLS = new HashMap<>();
    private static String sentence = "";
    private static int wrong = 0;

    static {
        for (Method m : DominoKing.class.getDeclaredMethods()) {
            CALLS.put(m.getName(), m);
        }
    }

    private Trial() {
    }

    /** Names the sentence of the document that is on trial from now on. */
    static void on(String words) {
        sentence = words;
    }

    static void due(String call, int got, int want) {
        if (got != want) {
            wrong++;
            if (wrong <= 60) {
                System.out.println(sentence + ": " + call + " answered " + got + ", due is " + want);
            }
        }
    }

    /** One call by its name; the answer must be the one that is due. */
    static void due(int want, DominoKing x, String name, int... args) {
        due(told(name, args), answer(x, name, args), want);
    }

    static String told(String name, int... args) {
        return name + Arrays.toString(args).replace('[', '(').replace(']', ')');
    }

    static int answer(DominoKing x, String name, int... args) {
        Object[] given = new Object[args.length];
        for (int i = 0; i < args.length; i++) {
            given[i] = args[i];
        }
        try {
            return (Integer) CALLS.get(name).invoke(x, given);
        } catch (IllegalAccessException | InvocationTargetException e) {
            throw new IllegalStateException(sentence + ": " + told(name, args), e);
        }
    }

    static void end() {
        System.out.println(wrong == 0 ? "all answers are as due" : wrong + " answers are not as due");
        if (wrong != 0) {
            System.exit(1);
        }
    }

    // ---- texts

    /** Brings bytes to an empty tape. */
    static void type(DominoKing x, String text) {
        StringBuilder padded = new StringBuilder(text);
        while (padded.length() % 12 != 0) {
            padded.append(' ');
        }
        for (int i = 0; i < padded.length(); i += 12) {
            x.feed(four(padded, i), four(padded, i + 4), four(padded, i + 8));
        }
        x.trim(text.length());
    }

    private static int four(CharSequence s, int i) {
        return s.charAt(i) << 24 | s.charAt(i + 1) << 16 | s.charAt(i + 2) << 8 | s.charAt(i + 3);
    }

    static int textOf(DominoKing x, String text) {
        type(x, text);
        return x.text();
    }

    /** What text() answers for these bytes on a new object. */
    static int read(String text) {
        return textOf(new DominoKing(), text);
    }

    /** What fee() answers on a new object with this law. */
    static int fee(String e) {
        DominoKing x = new DominoKing();
        due("text() of fee " + e, textOf(x, "fee " + e), 0);
        return x.fee();
    }

    // ---- stones

    /** An object that wants 0 everywhere, so that OFF is DARK of both halves together. */
    static DominoKing darkRoom() {
        DominoKing x = new DominoKing();
        for (int cell = 0; cell < 24; cell++) {
            x.want(cell, 0);
        }
        return x;
    }

    static void wantAll(DominoKing x, int v) {
        for (int cell = 0; cell < 24; cell++) {
            x.want(cell, v);
        }
    }

    /** As many stones of one make as told. */
    static void stones(DominoKing x, int many, int kind, int left, int right) {
        for (int i = 0; i < many; i++) {
            x.stone(kind, left, right);
        }
    }

    /** Twelve like stones, stone p on place p. */
    static DominoKing allLaid(int kind, int left, int right) {
        DominoKing x = new DominoKing();
        for (int place = 0; place < 12; place++) {
            x.put(x.stone(kind, left, right), place, 0);
        }
        return x;
    }

    /** Where stone i of strewn() lies: no stone on the place of its own number but for few. */
    static int strewnTo(int stone) {
        return (5 * stone + 3) % 12;
    }

    /** Stones of kind 0 with lots for their spots, all over the places, turned by the bits of a number. */
    static DominoKing strewn(int many, int bits) {
        DominoKing x = new DominoKing();
        for (int i = 0; i < many; i++) {
            x.stone(0, (i * i + bits) % 7, (3 * i + 1) % 7);
            x.put(i, strewnTo(i), bits >> i & 1);
        }
        for (int cell = 0; cell < 24; cell++) {
            x.want(cell, (17 * cell + bits) % 100);
        }
        return x;
    }

    /** Spots of a half (0, 1) of a stone as it lies, by what is told of it. */
    static int spots(DominoKing x, int stone, int half) {
        return x.told(stone, half == x.told(stone, 4) ? 1 : 2);
    }

    // ---- draws

    static int next(int z) {
        return (int) ((z & 0xffffffffL) * 1103515245L + 12345L);
    }

    static int next(int z, int times) {
        int is = z;
        for (int i = 0; i < times; i++) {
            is = next(is);
        }
        return is;
    }

    /** The draw that comes as the n-th from a z (the first: 1). */
    static int draw(int z, int n) {
        return (int) ((next(z, n) & 0xffffffffL) / 256);
    }

    /** The first z from 1 on for which it holds. */
    static int zWhere(IntPredicate holds) {
        for (int z = 1; z < 10_000_000; z++) {
            if (holds.test(z)) {
                return z;
            }
        }
        throw new IllegalStateException(sentence + ": no z");
    }

    /** A z whose next day is of this row. */
    static int zOfRow(int row) {
        return zWhere(z -> draw(z, 1) % 4 == row);
    }

    /** A z whose next day is of a row, with this rest for the wind and this place to be turned. */
    static int zOfDay(int row, int rest, int place) {
        return zWhere(z -> draw(z, 1) % 4 == row && draw(z, 2) % 100 == rest && draw(z, 3) % 12 == place);
    }

    /** An object at THE DAY, by days of which none lays a stone. */
    static DominoKing atDay(int day) {
        DominoKing x = new DominoKing();
        for (int left = day; left > 0; left -= 100) {
            x.days(Math.min(left, 100));
        }
        return x;
    }
}
