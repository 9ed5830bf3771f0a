import java.util.ArrayList;
import java.util.Arrays;
import java.util.List;
import java.util.Random;

/** Runs of calls by lot, each answer against a second, plain writing of the document. The lot is seeded: every run is the same. */
public final class PlainModelTest {
    private static final int BAD = DominoKing.BAD;
    private static final int NO = DominoKing.NO;
    private static final int FULL = DominoKing.FULL;
    private static final int NONE = DominoKing.NONE;
    private static final int NOTHING = DominoKing.NOTHING;
    private static final int KIND = DominoKing.KIND;
    private static final int INDEX = DominoKing.INDEX;
    private static final int SIZE = DominoKing.SIZE;
    private static final int RUNS = 400;
    private static final int CALLS = 512;

    private static int wrong = 0;

    // ---- the model: stones by kind, one class under the other

    static class Stone {
        int left;
        int right;
        Integer at;
        boolean turned;

        int number() {
            return 0;
        }

        int spots(int half) {
            return (half == 0) != turned ? left : right;
        }

        int dark(World w, int s, int r) {
            int given = w.law("dark") == null ? 15 * s : w.law("dark").value(s, r, heavy());
            return given < 0 ? 0 : given > 99 ? 99 : given;
        }

        int heavy() {
            return left + right;
        }

        int worth() {
            return 10 * left + right;
        }

        Stone same(Stone as) {
            left = as.left;
            right = as.right;
            at = as.at;
            turned = as.turned;
            return this;
        }
    }

    static class Ivory extends Stone {
        int number() {
            return 1;
        }

        int dark(World w, int s, int r) {
            int d = super.dark(w, s, r) - 10;
            return d < 0 ? 0 : d;
        }

        int heavy() {
            return super.heavy() + 2;
        }

        int worth() {
            return super.worth() + 7;
        }
    }

    static class Yellow extends Ivory {
        int number() {
            return 3;
        }

        int dark(World w, int s, int r) {
            return (super.dark(w, s, r) + 60) / 2;
        }

        int heavy() {
            return super.heavy() * 2;
        }

        int worth() {
            return super.worth() * 2;
        }
    }

    static class Chalk extends Stone {
        int number() {
            return 2;
        }

        int dark(World w, int s, int r) {
            return 99 - super.dark(w, s, r);
        }

        int heavy() {
            return super.heavy() / 2;
        }

        int worth() {
            return 99 - super.worth();
        }
    }

    static class Dusty extends Chalk {
        int number() {
            return 4;
        }

        int dark(World w, int s, int r) {
            int d = super.dark(w, s, r) + 5;
            return d > 99 ? 99 : d;
        }

        int worth() {
            return super.worth() - 4;
        }
    }

    static class Blank extends Stone {
        int number() {
            return 5;
        }

        int dark(World w, int s, int r) {
            return 0;
        }

        int heavy() {
            return 1;
        }

        int worth() {
            return 3;
        }
    }

    static Stone made(int kind) {
        Stone[] all = {new Stone(), new Ivory(), new Chalk(), new Yellow(), new Dusty(), new Blank()};
        return all[kind];
    }

    static boolean isOf(Stone s, int kind) {
        Class<?>[] all = {Stone.class, Ivory.class, Chalk.class, Yellow.class, Dusty.class, Blank.class};
        return all[kind].isInstance(s);
    }

    // ---- the model: texts, split at the loosest sign

    static class Law {
        List<String> parts = new ArrayList<>();
        String key;
        String names;

        int value(int a, int b, int c) {
            return value(1, parts.size(), new int[] {a, b, c});
        }

        int value(int from, int to, int[] given) {
            for (String signs : new String[] {"|", "&", "<=>", "+-", "*/"}) {
                int deep = 0;
                for (int i = to - 1; i > from; i--) {
                    String p = parts.get(i);
                    deep += p.equals(")") ? 1 : p.equals("(") ? -1 : 0;
                    if (deep == 0 && signs.contains(p)) {
                        return join(p.charAt(0), value(from, i, given), value(i + 1, to, given));
                    }
                }
            }
            String p = parts.get(from);
            if (p.equals("!")) {
                return value(from + 1, to, given) == 0 ? 1 : 0;
            }
            if (p.equals("(")) {
                return value(from + 1, to - 1, given);
            }
            return Character.isDigit(p.charAt(0)) ? Integer.parseInt(p) : given[names.indexOf(p)];
        }

        static int join(char sign, int a, int b) {
            switch (sign) {
                case '|': return a != 0 | b != 0 ? 1 : 0;
                case '&': return a != 0 & b != 0 ? 1 : 0;
                case '<': return a < b ? 1 : 0;
                case '=': return a == b ? 1 : 0;
                case '>': return a > b ? 1 : 0;
                case '+': return a + b;
                case '-': return a - b;
                case '*': return a * b;
                default: return b == 0 ? 0 : a / b;
            }
        }

        int operands() {
            int many = 0;
            for (String p : parts.subList(1, parts.size())) {
                many += Character.isLetterOrDigit(p.charAt(0)) ? 1 : 0;
            }
            return many;
        }
    }

    /** Goes over the tape with a pile of what is open; answers the place of the fault, -1 if there is none. */
    static int faultOf(String tape, Law law) {
        List<int[]> open = new ArrayList<>(); // each: whether its test has its sign, how many ! wait in it
        open.add(new int[] {0, 0});
        boolean wantsPiece = true;
        int i = 0;
        boolean wordAhead = false;
        while (true) {
            int blanks = i;
            while (i < tape.length() && tape.charAt(i) == ' ') {
                i++;
            }
            boolean needs = wordAhead && i == blanks;
            if (i == tape.length()) {
                return wantsPiece || open.size() > 1 || law.key == null ? i : -1;
            }
            int end = i + 1;
            for (String set : new String[] {"abcdefghijklmnopqrstuvwxyz", "0123456789"}) {
                while (set.indexOf(tape.charAt(i)) >= 0 && end < tape.length() && set.indexOf(tape.charAt(end)) >= 0) {
                    end++;
                }
            }
            String part = tape.substring(i, end);
            boolean word = part.matches("[a-z]+|[0-9]+");
            if (word && needs) {
                return i;
            }
            if (law.key == null) {
                if (!Arrays.asList("dark", "fee", "fine").contains(part)) {
                    return i;
                }
                law.key = part;
                law.names = part.equals("dark") ? "srk" : part.equals("fee") ? "pm" : "lrt";
            } else {
                int[] top = open.get(open.size() - 1);
                if (wantsPiece) {
                    if (part.equals("(")) {
                        if (open.size() == 9) {
                            return i;
                        }
                        open.add(new int[] {0, 0});
                    } else if (part.equals("!")) {
                        int nots = 0;
                        for (int[] o : open) {
                            nots += o[1];
                        }
                        if (nots == 8) {
                            return i;
                        }
                        top[1]++;
                    } else if (part.matches("[0-9]{1,4}") || part.length() == 1 && word && law.names.contains(part)) {
                        wantsPiece = false;
                        top[1] = 0;
                    } else {
                        return i;
                    }
                } else if (part.equals(")") && open.size() > 1) {
                    open.remove(open.size() - 1);
                    open.get(open.size() - 1)[1] = 0;
                } else if ("|&".contains(part)) {
                    top[0] = 0;
                    wantsPiece = true;
                } else if ("<=>".contains(part) && part.length() == 1 && top[0] == 0) {
                    top[0] = 1;
                    wantsPiece = true;
                } else if ("+-*/".contains(part)) {
                    wantsPiece = true;
                } else {
                    return i;
                }
            }
            law.parts.add(part);
            wordAhead = word;
            i = end;
        }
    }

    // ---- the model: all that an image keeps

    static class World {
        List<Stone> stones = new ArrayList<>();
        int[] wants = new int[24];
        List<Law> texts = new ArrayList<>();
        int wind;
        int day;
        int z = 1;
        Stone without;

        World() {
            Arrays.fill(wants, 50);
        }

        World same() {
            World w = new World();
            for (Stone s : stones) {
                w.stones.add(made(s.number()).same(s));
            }
            w.wants = wants.clone();
            w.texts.addAll(texts);
            w.wind = wind;
            w.day = day;
            w.z = z;
            return w;
        }

        Law law(String key) {
            Law last = null;
            for (Law l : texts) {
                last = l.key.equals(key) ? l : last;
            }
            return last;
        }

        int draw() {
            z = z * 1103515245 + 12345;
            return z >>> 8;
        }

        Stone on(int place) {
            for (Stone s : stones) {
                if (s.at != null && s.at == place) {
                    return s;
                }
            }
            return null;
        }

        int numberOn(int place) {
            return on(place) == null ? NONE : stones.indexOf(on(place));
        }

        int off(Stone s, int place, boolean turn) {
            boolean was = s.turned;
            s.turned = turn;
            int sum = 0;
            for (int half = 0; half < 2; half++) {
                sum += Math.abs(s.dark(this, s.spots(half), place / 3) - wants[2 * place + half]);
            }
            s.turned = was;
            return sum;
        }

        int least(Stone s, int place) {
            return Math.min(off(s, place, false), off(s, place, true));
        }

        int picture() {
            int sum = 0;
            for (int p = 0; p < 12; p++) {
                sum += on(p) == null ? 198 : off(on(p), p, on(p).turned);
            }
            return sum;
        }

        int matches() {
            int many = 0;
            for (int r = 0; r < 4; r++) {
                for (int p = 3 * r; p < 3 * r + 2; p++) {
                    many += on(p) != null && on(p + 1) != null && on(p).spots(1) == on(p + 1).spots(0) ? 1 : 0;
                }
            }
            return many;
        }

        int laid() {
            int many = 0;
            for (Stone s : stones) {
                many += s.at != null ? 1 : 0;
            }
            return many;
        }

        void pass() {
            int row = draw() % 4;
            int place = 3 * row;
            while (place < 3 * row + 3 && on(place) != null) {
                place++;
            }
            if (place < 3 * row + 3) {
                Stone which = null;
                boolean way = false;
                for (Stone s : stones) {
                    for (boolean turn : new boolean[] {false, true}) {
                        boolean inBox = s.at == null && s != without;
                        if (inBox && (which == null || off(s, place, turn) < off(which, place, way))) {
                            which = s;
                            way = turn;
                        }
                    }
                }
                if (which != null) {
                    which.at = place;
                    which.turned = way;
                }
            }
            if (draw() % 100 < wind) {
                Stone s = on(draw() % 12);
                if (s != null) {
                    s.turned = !s.turned;
                }
            }
            day++;
        }

        World behind(int n) {
            World w = same();
            for (int i = 0; i < n; i++) {
                w.pass();
            }
            return w;
        }

        int fall(int place) {
            int many = 0;
            Stone pushing = null;
            for (int p = place; p < 12 && on(p) != null; p++) {
                if (pushing != null && on(p).heavy() > 2 * pushing.heavy()) {
                    break;
                }
                pushing = on(p);
                many++;
            }
            return many;
        }

        /** Every way to lay the first m places, one place behind the other; found: least OFF, stone on place 0. */
        void lay(int m, int place, int used, int sum, int first, int[] found, int[][] offs) {
            if (place == m) {
                if (sum < found[0] || sum == found[0] && first < found[1]) {
                    found[0] = sum;
                    found[1] = first;
                }
                return;
            }
            for (int s = 0; s < stones.size(); s++) {
                Integer at = stones.get(s).at;
                if ((used >> s & 1) == 0 && (at == null || at < m)) {
                    lay(m, place + 1, used | 1 << s, sum + offs[s][place], place == 0 ? s : first, found, offs);
                }
            }
        }
    }

    // ---- the model: the calls

    static class Model {
        World w = new World();
        World image;
        String tape = "";
        Integer[][] sheets = new Integer[4][];
        int[] sorts = new int[4];
        Object[] slots = new Object[5];
        List<Integer> waiting = new ArrayList<>();

        static boolean in(int v, int least, int most) {
            return least <= v && v <= most;
        }

        boolean stoneOk(int s) {
            return in(s, 0, w.stones.size() - 1);
        }

        static int atOf(Stone s) {
            return s.at == null ? 12 : s.at;
        }

        int stone(int kind, int left, int right) {
            if (!in(kind, 0, 5) || !in(left, 0, 6) || !in(right, 0, 6)) {
                return BAD;
            }
            if (w.stones.size() == 12) {
                return FULL;
            }
            Stone s = made(kind);
            s.left = left;
            s.right = right;
            w.stones.add(s);
            return w.stones.size() - 1;
        }

        int told(int stone, int what) {
            if (!stoneOk(stone) || !in(what, 0, 6)) {
                return BAD;
            }
            Stone s = w.stones.get(stone);
            return new int[] {s.number(), s.left, s.right, atOf(s), s.turned ? 1 : 0, s.heavy(), s.worth()}[what];
        }

        int off(int stone, int place, int turn) {
            return stoneOk(stone) && in(place, 0, 11) && in(turn, 0, 1) ? w.off(w.stones.get(stone), place, turn == 1) : BAD;
        }

        int as(int stone, int kind) {
            if (!stoneOk(stone) || !in(kind, 0, 5)) {
                return BAD;
            }
            return isOf(w.stones.get(stone), kind) ? w.stones.get(stone).left : KIND;
        }

        int turns(int stone, int kind) {
            if (!stoneOk(stone) || !in(kind, 0, 5)) {
                return BAD;
            }
            Stone was = w.stones.get(stone);
            w.stones.set(stone, made(kind).same(was));
            return was.number();
        }

        int put(int stone, int place, int turn) {
            if (!stoneOk(stone) || !in(place, 0, 11) || !in(turn, 0, 1)) {
                return BAD;
            }
            Stone s = w.stones.get(stone);
            if (w.on(place) != null && w.on(place) != s) {
                return NO;
            }
            int was = atOf(s);
            s.at = place;
            s.turned = turn == 1;
            return was;
        }

        int box(int stone) {
            if (!stoneOk(stone)) {
                return BAD;
            }
            int was = atOf(w.stones.get(stone));
            w.stones.get(stone).at = null;
            return was;
        }

        int want(int cell, int v) {
            if (!in(cell, 0, 23) || !in(v, 0, 99)) {
                return BAD;
            }
            int was = w.wants[cell];
            w.wants[cell] = v;
            return was;
        }

        int wind(int v) {
            if (!in(v, 0, 100)) {
                return BAD;
            }
            int was = w.wind;
            w.wind = v;
            return was;
        }

        int deal(int n) {
            if (!in(n, 1, 12)) {
                return BAD;
            }
            int came = 0;
            while (came < n && w.stones.size() < 12) {
                int kind = w.draw() % 6;
                int left = w.draw() % 7;
                stone(kind, left, w.draw() % 7);
                came++;
            }
            return came;
        }

        int seed(int v) {
            int was = w.z;
            w.z = v;
            return was;
        }

        int days(int n) {
            if (!in(n, 1, 100)) {
                return BAD;
            }
            int ahead = w.laid();
            for (int i = 0; i < n && w.day < 9999; i++) {
                w.pass();
            }
            return w.laid() - ahead;
        }

        int king(int what) {
            int set = 0;
            for (int p = 0; p < 12; p++) {
                set += w.on(p) == null ? 0 : 1 << p;
            }
            return in(what, 0, 3) ? new int[] {w.picture(), w.matches(), w.laid(), set}[what] : BAD;
        }

        int at(int place) {
            return in(place, 0, 11) ? w.numberOn(place) : BAD;
        }

        int best(int m, int what) {
            if (!in(m, 1, 6) || !in(what, 0, 1)) {
                return BAD;
            }
            int[][] offs = new int[12][6];
            for (int s = 0; s < w.stones.size(); s++) {
                for (int p = 0; p < m; p++) {
                    offs[s][p] = w.least(w.stones.get(s), p);
                }
            }
            int[] found = {Integer.MAX_VALUE, NONE};
            w.lay(m, 0, 0, 0, 0, found, offs);
            return found[1] == NONE ? NONE : found[what];
        }

        int bestFor(int place, int what) {
            if (!in(place, 0, 11) || !in(what, 0, 1)) {
                return BAD;
            }
            int[] found = {NONE, NONE};
            for (int s = w.stones.size() - 1; s >= 0; s--) {
                int off = w.least(w.stones.get(s), place);
                if (found[0] == NONE || off <= found[1]) {
                    found = new int[] {s, off};
                }
            }
            return found[what];
        }

        int swap() {
            int least = w.picture();
            int found = NONE;
            for (int a = 0; a < w.stones.size(); a++) {
                for (int b = a + 1; b < w.stones.size(); b++) {
                    World t = w.same();
                    Stone one = t.stones.get(a);
                    Stone other = t.stones.get(b);
                    if (one.at != null && other.at != null) {
                        Integer at = one.at;
                        one.at = other.at;
                        other.at = at;
                        if (t.picture() < least) {
                            least = t.picture();
                            found = 100 * a + b;
                        }
                    }
                }
            }
            return found;
        }

        int knocked(int place) {
            return in(place, 0, 11) ? w.fall(place) : BAD;
        }

        int push(int what) {
            int from = 0;
            for (int p = 0; p < 12; p++) {
                from = w.fall(p) > w.fall(from) ? p : from;
            }
            return in(what, 0, 1) ? what == 0 ? from : w.fall(from) : BAD;
        }

        int behind(int n, int what) {
            if (!in(n, 0, 100) || !in(what, 0, 14)) {
                return BAD;
            }
            World t = w.behind(n);
            return what == 0 ? t.picture() : what == 1 ? t.matches() : what == 2 ? t.laid() : t.numberOn(what - 3);
        }

        int laid() {
            World t = w.same();
            for (int n = 0; n <= 200; n++) {
                if (t.laid() == 12 || t.laid() == t.stones.size()) {
                    return n;
                }
                t.pass();
            }
            return NONE;
        }

        int lost(int n, int what) {
            if (!in(n, 0, 60) || !in(what, 0, 1)) {
                return BAD;
            }
            int[] found = {NONE, NONE};
            for (int s = 0; s < w.stones.size(); s++) {
                World t = w.same();
                t.without = t.stones.get(s);
                t.without.at = null;
                for (int i = 0; i < n; i++) {
                    t.pass();
                }
                if (found[0] == NONE || t.picture() < found[1]) {
                    found = new int[] {s, t.picture()};
                }
            }
            return found[what];
        }

        int seen(int sheet, int what) {
            if (!in(sheet, 0, 3) || !in(what, 0, 1)) {
                return BAD;
            }
            if (sheets[sheet] == null) {
                return NOTHING;
            }
            int[] found = {-1, 0};
            for (int row = 0; row < 4; row++) {
                int sum = 0;
                for (int i = 0; i < 6 && i < sheets[sheet].length; i++) {
                    int place = 3 * row + i / 2;
                    Stone s = w.on(place);
                    int dark = s == null ? 0 : s.dark(w, s.spots(i % 2), row);
                    Integer v = sheets[sheet][i];
                    sum += v == null ? 0 : Math.abs(v - dark);
                }
                if (found[0] == -1 || sum < found[1]) {
                    found = new int[] {row, sum};
                }
            }
            return found[what];
        }

        int fee() {
            Law l = w.law("fee");
            return l == null ? w.picture() : l.value(w.picture(), w.matches(), 0);
        }

        int fine(int stone) {
            if (!stoneOk(stone)) {
                return BAD;
            }
            Stone s = w.stones.get(stone);
            Law l = w.law("fine");
            return l == null ? s.left : l.value(s.left, s.right, s.turned ? 1 : 0);
        }

        int feed(int a, int b, int c) {
            if (tape.length() + 12 > 96) {
                return FULL;
            }
            for (int v : new int[] {a, b, c}) {
                for (int i = 3; i >= 0; i--) {
                    tape += (char) (v >> 8 * i & 255);
                }
            }
            return tape.length();
        }

        int trim(int n) {
            if (!in(n, 0, tape.length())) {
                return BAD;
            }
            tape = tape.substring(0, n);
            return n;
        }

        int text() {
            Law l = new Law();
            int fault = faultOf(tape, l);
            tape = "";
            if (fault >= 0) {
                return -100 - fault;
            }
            if (w.texts.size() == 14) {
                return FULL;
            }
            w.texts.add(l);
            return w.texts.size() - 1;
        }

        int textTold(int text, int what) {
            if (!in(text, 0, w.texts.size() - 1) || !in(what, 0, 1)) {
                return BAD;
            }
            Law l = w.texts.get(text);
            return what == 0 ? Arrays.asList("dark", "fee", "fine").indexOf(l.key) : l.operands();
        }

        int why(int key) {
            if (!in(key, 0, 2)) {
                return BAD;
            }
            Law l = w.law(new String[] {"dark", "fee", "fine"}[key]);
            return l == null ? NONE : w.texts.indexOf(l);
        }

        int sheet(int sheet, int sort, int n) {
            if (!in(sheet, 0, 3) || !in(sort, -1, 1) || sort != -1 && n > 24) {
                return BAD;
            }
            if (sort == -1) {
                sheets[sheet] = null;
                return 0;
            }
            if (n < 0) {
                return SIZE;
            }
            sheets[sheet] = new Integer[n];
            Arrays.fill(sheets[sheet], 0);
            sorts[sheet] = sort;
            return n;
        }

        int mark(int sheet, int place, int v) {
            if (!in(sheet, 0, 3)) {
                return BAD;
            }
            if (sheets[sheet] == null) {
                return NOTHING;
            }
            if (!in(place, 0, sheets[sheet].length - 1)) {
                return INDEX;
            }
            if (sorts[sheet] == 0) {
                if (v == NONE) {
                    return KIND;
                }
                sheets[sheet][place] = v << 16 >> 16;
                return 1;
            }
            if (v != NONE && !in(v, -99999, 99999)) {
                return BAD;
            }
            sheets[sheet][place] = v == NONE ? null : Integer.valueOf(v);
            return 1;
        }

        int pour(int sheet) {
            if (!in(sheet, 0, 3)) {
                return BAD;
            }
            if (sheets[sheet] == null) {
                return NOTHING;
            }
            int many = 0;
            for (int i = 0; i < sheets[sheet].length; i++) {
                if (sheets[sheet][i] != null) {
                    int v = Math.min(99, Math.max(0, sheets[sheet][i]));
                    many += w.wants[i] != v ? 1 : 0;
                    w.wants[i] = v;
                }
            }
            return many;
        }

        int reads(int sheet) {
            if (!in(sheet, 0, 3)) {
                return BAD;
            }
            if (sheets[sheet] == null) {
                return NOTHING;
            }
            for (int i = 0; i < sheets[sheet].length; i++) {
                Integer v = sheets[sheet][i];
                if (v != null && (i > 11 || v != (w.on(i) == null ? -1 : w.numberOn(i)))) {
                    return i;
                }
            }
            return NONE;
        }

        int copy(int from, int place, int to, int at, int many) {
            if (!in(from, 0, 3) || !in(to, 0, 3)) {
                return BAD;
            }
            if (sheets[from] == null || sheets[to] == null) {
                return NOTHING;
            }
            if (sorts[from] != sorts[to]) {
                return KIND;
            }
            long end = (long) place + many;
            long last = (long) at + many;
            if (place < 0 || at < 0 || many < 0 || end > sheets[from].length || last > sheets[to].length) {
                return INDEX;
            }
            Integer[] were = sheets[from].clone();
            for (int i = 0; i < many; i++) {
                sheets[to][at + i] = were[place + i];
            }
            return many;
        }

        int lay(int slot, int thing, int k) {
            if (!in(slot, 0, 4) || !in(thing, 0, 3) || thing == 1 && !stoneOk(k) || thing == 2 && !in(k, 0, 3)) {
                return BAD;
            }
            if (thing == 2 && sheets[k] == null) {
                return NOTHING;
            }
            Object was = slots[slot];
            slots[slot] = thing == 0 ? null : thing == 3 ? (Object) k
                : thing == 2 ? sheets[k].clone() : made(w.stones.get(k).number()).same(w.stones.get(k));
            return was == null ? 0 : was instanceof Stone ? 1 : was instanceof Integer[] ? 2 : 3;
        }

        int ask(int slot, int kind) {
            if (!in(slot, 0, 4) || !in(kind, 0, 5)) {
                return BAD;
            }
            if (slots[slot] == null) {
                return NOTHING;
            }
            return slots[slot] instanceof Stone s && isOf(s, kind) ? s.worth() : KIND;
        }

        int item(int slot, int place) {
            if (!in(slot, 0, 4)) {
                return BAD;
            }
            if (slots[slot] == null) {
                return NOTHING;
            }
            if (!(slots[slot] instanceof Integer[] row)) {
                return KIND;
            }
            return !in(place, 0, row.length - 1) ? INDEX : row[place] == null ? KIND : row[place];
        }

        int rest(int slot, int n) {
            if (!in(slot, 0, 4)) {
                return BAD;
            }
            if (slots[slot] == null) {
                return NOTHING;
            }
            if (!(slots[slot] instanceof Integer k)) {
                return KIND;
            }
            return n == 0 ? NO : (int) ((long) k % n);
        }

        int tell(int v) {
            if (waiting.size() == 60) {
                return FULL;
            }
            waiting.add(v);
            return waiting.size();
        }

        int check(int n) {
            List<Integer> told = waiting;
            waiting = new ArrayList<>();
            if (!in(n, 1, 30)) {
                return BAD;
            }
            if (image == null) {
                return NO;
            }
            List<Integer> due = daysTold(n);
            int same = 0;
            while (same < due.size() && same < told.size() && due.get(same).equals(told.get(same))) {
                same++;
            }
            return due.size() == told.size() && same == due.size() ? 0 : 1 + same;
        }

        List<Integer> daysTold(int n) {
            List<Integer> rows = new ArrayList<>();
            World t = image.same();
            for (int i = 0; i < n && t.day < 9999; i++) {
                t.pass();
                rows.add(t.picture());
                rows.add(t.matches());
            }
            return rows;
        }

        int keep() {
            image = w.same();
            return w.stones.size();
        }

        int back() {
            if (image == null) {
                return NO;
            }
            w = image.same();
            return w.stones.size();
        }

        int count(int what) {
            int[] all = {w.stones.size(), w.day, w.wind, w.stones.size() - w.laid(), w.texts.size(), waiting.size(), tape.length(), w.z};
            return in(what, 0, 7) ? all[what] : BAD;
        }
    }

    // ---- the lot

    private final Random lot;
    private final int run;
    private final DominoKing real = new DominoKing();
    private final Model model = new Model();
    private int calls = 0;

    PlainModelTest(int run) {
        this.run = run;
        this.lot = new Random(run);
    }

    private void due(String call, int got, int want) {
        calls++;
        if (got != want) {
            wrong++;
            if (wrong < 30) {
                System.out.println("run " + run + ", call " + calls + ": " + call + " answered " + got + ", the model " + want);
            }
        }
    }

    /** Mostly within the bounds, at times just beyond them or far away. */
    private int near(int least, int most) {
        int way = lot.nextInt(40);
        if (way == 0) {
            return least - 1;
        }
        if (way == 1) {
            return most + 1;
        }
        if (way == 2) {
            int[] far = {Integer.MIN_VALUE, Integer.MAX_VALUE, NONE, BAD, -100000, 100000, 65536};
            return far[lot.nextInt(far.length)];
        }
        return least + lot.nextInt(most - least + 1);
    }

    private int any(int... choices) {
        return choices[lot.nextInt(choices.length)];
    }

    private int stoneNumber() {
        return near(0, Math.max(0, model.w.stones.size() - 1));
    }

    private String blanks() {
        return " ".repeat(lot.nextInt(8) == 0 ? 1 + lot.nextInt(2) : 0);
    }

    private String expression(String names, int deep) {
        int way = lot.nextInt(deep > 6 ? 2 : 7);
        switch (way) {
            case 0: return blanks() + names.charAt(lot.nextInt(names.length())) + blanks();
            case 1: return blanks() + any(0, 1, 2, 15, lot.nextInt(10000), lot.nextInt(100)) + blanks();
            case 2: return "!" + blanks() + expression(names, deep + 1);
            case 3: return "(" + expression(names, deep + 1) + ")";
            default: return expression(names, deep + 1) + "|&<=>+-*/+-*".charAt(lot.nextInt(12)) + expression(names, deep + 1);
        }
    }

    private String someText() {
        String key = new String[] {"dark", "fee", "fine"}[lot.nextInt(3)];
        String names = key.equals("dark") ? "srk" : key.equals("fee") ? "pm" : "lrt";
        String text = blanks() + key + (lot.nextInt(12) == 0 ? "" : " ") + expression(names, 0);
        if (lot.nextInt(12) == 0) {
            text = key + " " + "!(".repeat(7 + lot.nextInt(3)) + "1" + ")".repeat(7 + lot.nextInt(3));
        }
        if (lot.nextInt(12) == 0) {
            text = key + " " + "!".repeat(5) + "(".repeat(7 + lot.nextInt(3)) + "!".repeat(lot.nextInt(6)) + "1" + ")".repeat(8);
        }
        if (lot.nextInt(4) == 0) {
            int i = lot.nextInt(text.length());
            char c = lot.nextInt(3) == 0 ? (char) lot.nextInt(256) : "srkpmlt0123 ()!|&<=>+-*/".charAt(lot.nextInt(24));
            text = text.substring(0, i) + c + text.substring(i + lot.nextInt(2));
        }
        return text.length() > 96 ? text.substring(0, 96) : text;
    }

    private void feedText() {
        String text = someText();
        StringBuilder padded = new StringBuilder(text);
        while (padded.length() % 12 != 0) {
            padded.append(' ');
        }
        if (lot.nextInt(8) != 0) {
            due("trim 0", real.trim(0), model.trim(0));
        }
        for (int i = 0; i < padded.length(); i += 12) {
            int[] v = new int[3];
            for (int j = 0; j < 12; j++) {
                v[j / 4] = v[j / 4] << 8 | padded.charAt(i + j);
            }
            due("feed", real.feed(v[0], v[1], v[2]), model.feed(v[0], v[1], v[2]));
        }
        int n = model.tape.length() - (padded.length() - text.length());
        due("trim", real.trim(n), model.trim(n));
        due("text of " + text, real.text(), model.text());
    }

    private void tellDays() {
        int n = 1 + lot.nextInt(30);
        if (model.image != null) {
            List<Integer> rows = model.daysTold(n);
            int many = lot.nextInt(3) == 0 ? lot.nextInt(rows.size() + 1) : rows.size();
            int spoilt = lot.nextInt(3) == 0 ? lot.nextInt(many + 1) : -1;
            for (int i = 0; i < many; i++) {
                int v = rows.get(i) + (i == spoilt ? 1 : 0);
                due("tell", real.tell(v), model.tell(v));
            }
            if (lot.nextInt(4) == 0) {
                due("tell", real.tell(7), model.tell(7));
            }
        }
        due("check " + n, real.check(n), model.check(n));
    }

    private void callOfStones() {
        int a = stoneNumber();
        int b = near(0, 11);
        int c = near(0, 1);
        int k = near(0, 5);
        int l = near(0, 6);
        switch (lot.nextInt(14)) {
            case 0: due("stone", real.stone(k, l, b % 7), model.stone(k, l, b % 7)); break;
            case 1: due("told " + a, real.told(a, l), model.told(a, l)); break;
            case 2: due("off", real.off(a, b, c), model.off(a, b, c)); break;
            case 3: due("as", real.as(a, k), model.as(a, k)); break;
            case 4: due("turns", real.turns(a, k), model.turns(a, k)); break;
            case 5:
            case 6:
            case 7: due("put", real.put(a, b, c), model.put(a, b, c)); break;
            case 8: due("box", real.box(a), model.box(a)); break;
            case 9:
            case 10: {
                int cell = near(0, 23);
                int v = near(0, 99);
                due("want", real.want(cell, v), model.want(cell, v));
                break;
            }
            case 11: {
                int v = near(0, 100);
                due("wind", real.wind(v), model.wind(v));
                break;
            }
            case 12: {
                int n = near(1, 4);
                due("deal", real.deal(n), model.deal(n));
                break;
            }
            default: {
                int v = lot.nextInt();
                due("seed", real.seed(v), model.seed(v));
                break;
            }
        }
    }

    private void callOfThoughts() {
        int p = near(0, 11);
        int what = near(0, 1);
        switch (lot.nextInt(16)) {
            case 0: {
                int n = near(1, any(3, 10, 100));
                due("days " + n, real.days(n), model.days(n));
                break;
            }
            case 1: {
                int w = near(0, 3);
                due("king " + w, real.king(w), model.king(w));
                break;
            }
            case 2: due("at", real.at(p), model.at(p)); break;
            case 3:
            case 4: {
                int m = near(1, lot.nextInt(8) == 0 ? 6 : 4);
                due("best " + m + " " + what, real.best(m, what), model.best(m, what));
                break;
            }
            case 5: due("bestFor", real.bestFor(p, what), model.bestFor(p, what)); break;
            case 6: due("swap", real.swap(), model.swap()); break;
            case 7: due("knocked", real.knocked(p), model.knocked(p)); break;
            case 8: due("push", real.push(what), model.push(what)); break;
            case 9:
            case 10: {
                int n = near(0, any(5, 100));
                int w = near(0, 14);
                due("behind " + n + " " + w, real.behind(n, w), model.behind(n, w));
                break;
            }
            case 11: due("laid", real.laid(), model.laid()); break;
            case 12: {
                int n = near(0, any(5, 60));
                due("lost " + n + " " + what, real.lost(n, what), model.lost(n, what));
                break;
            }
            case 13: {
                int sheet = near(0, 3);
                due("seen", real.seen(sheet, what), model.seen(sheet, what));
                break;
            }
            case 14: due("fee", real.fee(), model.fee()); break;
            default: {
                int s = stoneNumber();
                due("fine", real.fine(s), model.fine(s));
                break;
            }
        }
    }

    private void callOfSheets() {
        int sheet = near(0, 3);
        int slot = near(0, 4);
        int place = near(0, any(2, 6, 23));
        switch (lot.nextInt(14)) {
            case 0: {
                int sort = near(-1, 1);
                int n = near(0, 24);
                due("sheet", real.sheet(sheet, sort, n), model.sheet(sheet, sort, n));
                break;
            }
            case 1:
            case 2:
            case 3: {
                int v = any(near(0, 99), near(-1, 11), near(-99999, 99999), NONE, lot.nextInt());
                due("mark", real.mark(sheet, place, v), model.mark(sheet, place, v));
                break;
            }
            case 4: due("pour", real.pour(sheet), model.pour(sheet)); break;
            case 5: {
                if (model.sheets[lot.nextInt(4)] != null && lot.nextBoolean()) {
                    for (int i = 0; i < 12; i++) {
                        int v = model.w.on(i) == null ? -1 : model.w.numberOn(i);
                        due("mark", real.mark(sheet, i, v), model.mark(sheet, i, v));
                    }
                }
                due("reads", real.reads(sheet), model.reads(sheet));
                break;
            }
            case 6:
            case 7: {
                int to = near(0, 3);
                int at = near(0, any(2, 6, 23));
                int many = near(0, any(2, 6, 24));
                due("copy", real.copy(sheet, place, to, at, many), model.copy(sheet, place, to, at, many));
                break;
            }
            case 8:
            case 9: {
                int thing = near(0, 3);
                int k = thing == 1 ? stoneNumber() : thing == 2 ? sheet : lot.nextInt();
                due("lay", real.lay(slot, thing, k), model.lay(slot, thing, k));
                break;
            }
            case 10: {
                int kind = near(0, 5);
                due("ask", real.ask(slot, kind), model.ask(slot, kind));
                break;
            }
            case 11:
            case 12: due("item", real.item(slot, place), model.item(slot, place)); break;
            default: {
                int n = any(0, -1, lot.nextInt(), 1 + lot.nextInt(9));
                due("rest", real.rest(slot, n), model.rest(slot, n));
                break;
            }
        }
    }

    private void callOfRows() {
        switch (lot.nextInt(9)) {
            case 0:
                if (lot.nextInt(3) == 0) {
                    due("keep", real.keep(), model.keep());
                }
                break;
            case 1:
                if (lot.nextInt(3) == 0) {
                    due("back", real.back(), model.back());
                }
                break;
            case 2: tellDays(); break;
            case 3: feedText(); break;
            case 4: {
                int text = near(0, 13);
                int what = near(0, 1);
                due("textTold", real.textTold(text, what), model.textTold(text, what));
                break;
            }
            case 5: {
                int key = near(0, 2);
                due("why", real.why(key), model.why(key));
                break;
            }
            case 6: {
                int n = near(1, 30);
                due("check", real.check(n), model.check(n));
                break;
            }
            case 7: {
                int v = lot.nextInt();
                due("tell", real.tell(v), model.tell(v));
                break;
            }
            default: {
                int n = near(0, 96);
                due("trim", real.trim(n), model.trim(n));
                break;
            }
        }
    }

    private void go() {
        while (calls < CALLS) {
            switch (lot.nextInt(4)) {
                case 0: callOfStones(); break;
                case 1: callOfThoughts(); break;
                case 2: callOfSheets(); break;
                default: callOfRows(); break;
            }
            int what = near(0, 7);
            due("count " + what, real.count(what), model.count(what));
        }
        for (int i = 0; i < model.w.stones.size(); i++) {
            for (int what = 0; what < 7; what++) {
                due("told " + i + " " + what, real.told(i, what), model.told(i, what));
            }
        }
    }

    public static void main(String[] args) {
        for (int run = 0; run < RUNS; run++) {
            new PlainModelTest(run).go();
        }
        System.out.println(wrong == 0 ? "all answers are as the model's" : wrong + " answers are not as the model's");
        if (wrong != 0) {
            System.exit(1);
        }
    }
}
