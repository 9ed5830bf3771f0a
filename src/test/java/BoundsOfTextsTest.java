/** The bounds of the tape, of texts and their faults: part 4 of the document's terms, promises 27 to 31. */
public final class BoundsOfTextsTest {
    private static final int FULL = Trial.FULL;
    private static final int NONE = Trial.NONE;
    private static final int LEAST = Trial.LEAST;
    private static final String[] KEYS = {"dark", "fee", "fine"};
    private static final String[] NAMES = {"srk", "pm", "lrt"};

    private static void fault(int place, String text) {
        Trial.due("text() of " + text, Trial.read(text), -100 - place);
    }

    private static void stands(String text) {
        Trial.due("text() of " + text, Trial.read(text), 0);
    }

    private static void gives(int want, String e) {
        Trial.due("fee() of " + e, Trial.fee(e), want);
    }

    // ---- the tape

    private static void feeds() {
        Trial.on("promise 27, twelve bytes; FULL: it would have more than 96");
        DominoKing x = new DominoKing();
        for (int i = 1; i <= 8; i++) {
            Trial.due(12 * i, x, "feed", -1, 0, i);
            Trial.due(12 * i, x, "count", 6);
        }
        Trial.due(FULL, x, "feed", 0, 0, 0);
        for (int[] of : new int[][] {{95, FULL}, {85, FULL}, {84, 96}, {83, 95}, {1, 13}, {0, 12}}) {
            DominoKing y = new DominoKing();
            for (int i = 0; i < 8; i++) {
                y.feed(0, 0, 0);
            }
            y.trim(of[0]);
            Trial.due(of[1], y, "feed", 0, 0, 0);
            Trial.due(of[1] == FULL ? of[0] : of[1], y, "count", 6);
        }
        Trial.on("promise 27, the highest of each number first");
        DominoKing y = new DominoKing();
        y.feed(0x20666565, 0x20313233, 0x342d3520);
        Trial.due(0, y, "text");
        Trial.due(1229, y, "fee");
        Trial.on("promise 27, behind what the tape has");
        y.feed(0x66656520, 0x392a3920, 0x20202020);
        y.trim(7);
        y.feed(0x2d312020, 0x20202020, 0x20202020);
        Trial.due(19, y, "count", 6);
        Trial.due(1, y, "text");
        Trial.due(80, y, "fee");
    }

    private static void trims() {
        Trial.on("promise 28, the first n bytes: n, from none to all that it has");
        for (int n = 0; n <= 24; n++) {
            DominoKing x = new DominoKing();
            x.feed(0, 0, 0);
            x.feed(0, 0, 0);
            Trial.due(Trial.BAD, x, "trim", 25);
            Trial.due(n, x, "trim", n);
            Trial.due(n, x, "count", 6);
            Trial.due(Trial.BAD, x, "trim", n + 1);
            Trial.due(n, x, "trim", n);
            Trial.due(0, x, "trim", 0);
            Trial.due(0, x, "count", 6);
        }
        Trial.on("promise 28, what is behind them is gone");
        DominoKing x = new DominoKing();
        x.feed(0x66656520, 0x37373737, 0x37373737);
        x.trim(6);
        x.feed(0x38202020, 0x20202020, 0x20202020);
        Trial.due(0, x, "text");
        Trial.due(778, x, "fee");
        Trial.on("promise 28, the whole tape");
        DominoKing y = new DominoKing();
        for (int i = 0; i < 8; i++) {
            y.feed(0, 0, 0);
        }
        Trial.due(96, y, "trim", 96);
        Trial.due(95, y, "trim", 95);
    }

    private static void usedUp() {
        Trial.on("part 4, an act that reads the tape uses it up, whatever it answers");
        for (String text : new String[] {"fee 1", "fee", "", "xyz", "fee 1)"}) {
            DominoKing x = new DominoKing();
            Trial.type(x, text);
            Trial.due(text.length(), x, "count", 6);
            x.text();
            Trial.due(0, x, "count", 6);
            Trial.due(-100, x, "text");
            Trial.due(12, x, "feed", 0, 0, 0);
        }
    }

    // ---- how many texts

    private static void fourteen() {
        Trial.on("part 4, TEXTS, 14 at most, numbered from 0");
        DominoKing x = new DominoKing();
        for (int i = 0; i < 14; i++) {
            Trial.due(i, x, "count", 4);
            Trial.due(Trial.BAD, x, "textTold", i, 0);
            Trial.due("text " + i, Trial.textOf(x, KEYS[i % 3] + " " + i), i);
            Trial.due(i % 3, x, "textTold", i, 0);
            Trial.due(i, x, "why", i % 3);
        }
        for (int key = 0; key < 3; key++) {
            Trial.due("the fifteenth", Trial.textOf(x, KEYS[key] + " 99"), FULL);
        }
        Trial.due("a fault", Trial.textOf(x, "fee ?"), -104);
        Trial.due("the end", Trial.textOf(x, "fee"), -103);
        Trial.due(14, x, "count", 4);
        for (int text : new int[] {-1, 14, 15, 16}) {
            Trial.due(Trial.BAD, x, "textTold", text, 0);
            Trial.due(Trial.BAD, x, "textTold", text, 1);
        }
        Trial.due(1, x, "textTold", 13, 0);
        Trial.due(12, x, "why", 0);
        Trial.due(13, x, "why", 1);
        Trial.due(11, x, "why", 2);
        Trial.due(13, x, "fee");
        Trial.on("part 5, an image keeps TEXTS: there is room again behind back()");
        DominoKing y = new DominoKing();
        for (int i = 0; i < 13; i++) {
            Trial.textOf(y, "fee " + i);
        }
        y.keep();
        for (int time = 0; time < 3; time++) {
            Trial.due("the fourteenth", Trial.textOf(y, "fee " + (50 + time)), 13);
            Trial.due("the fifteenth", Trial.textOf(y, "fee 7"), FULL);
            Trial.due(50 + time, y, "fee");
            y.back();
            Trial.due(12, y, "fee");
            Trial.due(12, y, "why", 1);
            Trial.due(Trial.BAD, y, "textTold", 13, 0);
        }
    }

    private static void theLastCounts() {
        Trial.on("part 4, of a KEY that TEXT counts that was told last");
        DominoKing x = new DominoKing();
        x.stone(0, 2, 3);
        for (int key = 0; key < 3; key++) {
            Trial.due(NONE, x, "why", key);
        }
        Trial.textOf(x, "fine 5");
        Trial.due(NONE, x, "why", 0);
        Trial.due(NONE, x, "why", 1);
        Trial.due(0, x, "why", 2);
        Trial.textOf(x, "fine 6");
        Trial.textOf(x, "dark 7");
        Trial.textOf(x, "fee 8");
        Trial.textOf(x, "fine 9+");
        Trial.textOf(x, "dark");
        Trial.due(6, x, "fine", 0);
        Trial.due(8, x, "fee");
        Trial.due(43 * 2, x, "off", 0, 0, 0);
        Trial.due(2, x, "why", 0);
        Trial.due(3, x, "why", 1);
        Trial.due(1, x, "why", 2);
        Trial.textOf(x, "dark 9");
        Trial.due(41 * 2, x, "off", 0, 0, 0);
        Trial.due(1, x, "stone", 0, 6, 6);
        Trial.due(41 * 2, x, "off", 1, 0, 0);
    }

    private static void toldOfATextWithKeys() {
        Trial.on("promise 30, KEY; how many NUMBERS and NAMES");
        for (int key = 0; key < 3; key++) {
            DominoKing x = new DominoKing();
            String name = NAMES[key].substring(0, 1);
            Trial.textOf(x, KEYS[key] + " 1");
            Trial.textOf(x, KEYS[key] + " " + name);
            Trial.textOf(x, KEYS[key] + " !(" + name + "+1)&" + name);
            for (int i = 0; i < 3; i++) {
                Trial.due(key, x, "textTold", i, 0);
                Trial.due(i < 2 ? 1 : 3, x, "textTold", i, 1);
            }
        }
        Trial.on("promise 30, as many as the tape can hold: 46 of one sign each");
        DominoKing x = new DominoKing();
        StringBuilder text = new StringBuilder("fee 1");
        for (int i = 0; i < 45; i++) {
            text.append("|1");
        }
        Trial.due("text", Trial.textOf(x, text.toString()), 0);
        Trial.due(46, x, "textTold", 0, 1);
        Trial.due(1, x, "fee");
    }

    // ---- keys

    private static void keys() {
        Trial.on("part 4, KEY: dark | fee | fine, a word as long as it goes");
        for (String key : KEYS) {
            stands(key + " 1");
            stands("   " + key + "   1   ");
            stands(key + "(1)");
            stands(key + "!1");
            fault(0, key.substring(0, key.length() - 1) + " 1");
            fault(0, key + "s 1");
            fault(0, "a" + key + " 1");
            fault(0, key.toUpperCase() + " 1");
            fault(key.length(), key);
            fault(key.length() + 1, key + " ");
            fault(key.length() + 1, key + " " + key);
            for (int i = 0; i < key.length(); i++) {
                fault(0, key.substring(0, i) + "q" + key.substring(i + 1) + " 1");
            }
        }
        fault(0, "");
        fault(1, " ");
        fault(96, " ".repeat(96));
        fault(0, "1 fee");
        fault(0, "(fee 1)");
        fault(2, "  +");
        for (int sign = 0; sign < 256; sign++) {
            if (sign != ' ') {
                fault(0, (char) sign + " 1");
            }
        }
        Trial.on("part 4, a word right behind another one needs a blank");
        fault(3, "fee1");
        fault(4, "dark0+1");
        fault(4, "fine9999");
        stands("fee 1");
        fault(5, "fee 1p");
        fault(5, "fee p1");
        fault(6, "fee 1 p");
        fault(5, "fee 9m+1");
    }

    // ---- words and signs, byte by byte

    private static void everySignBetween() {
        Trial.on("part 4, every byte between two PIECES");
        for (int b = 0; b < 256; b++) {
            String text = "fee 1" + (char) b + "2";
            if ("|&<=>+-*/".indexOf(b) >= 0 || b >= '0' && b <= '9') {
                stands(text);
            } else {
                fault(b == ' ' ? 6 : 5, text);
            }
        }
        Trial.on("part 4, every byte where a PIECE is due");
        for (int b = 0; b < 256; b++) {
            String text = "fee " + (char) b;
            if (b >= '0' && b <= '9' || b == 'p' || b == 'm') {
                stands(text);
            } else {
                fault("!( ".indexOf(b) >= 0 ? 5 : 4, text);
            }
        }
        Trial.on("part 4, every byte behind a NAME: a letter makes it a longer word");
        for (int b = 0; b < 256; b++) {
            String text = "fee p" + (char) b;
            if (b == ' ') {
                stands(text);
            } else if (b >= 'a' && b <= 'z') {
                fault(4, text);
            } else {
                fault("|&<=>+-*/".indexOf(b) >= 0 ? 6 : 5, text);
            }
        }
        Trial.on("part 4, every byte ahead of the KEY and behind it");
        for (int b = 0; b < 256; b++) {
            if (b == ' ' || b == '(' || b == '!') {
                Trial.due("behind the key " + b, Trial.read("fee" + (char) b + "1"), b == '(' ? -105 : 0);
            } else {
                fault(b >= 'a' && b <= 'z' ? 0 : 3, "fee" + (char) b + "1");
            }
        }
    }

    private static void everyName() {
        Trial.on("part 4, NAMES, each one letter, of their KEY alone");
        for (int key = 0; key < 3; key++) {
            for (char c = 'a'; c <= 'z'; c++) {
                String text = KEYS[key] + " " + c;
                if (NAMES[key].indexOf(c) >= 0) {
                    stands(text);
                } else {
                    fault(KEYS[key].length() + 1, text);
                }
                fault(KEYS[key].length() + 1, KEYS[key] + " " + c + c);
                fault(KEYS[key].length() + 1, KEYS[key] + " " + Character.toUpperCase(c));
            }
        }
        Trial.on("part 4, what each NAME is");
        DominoKing x = Trial.darkRoom();
        x.stone(0, 2, 5);
        Trial.textOf(x, "dark s");
        Trial.due(7, x, "off", 0, 11, 0);
        Trial.textOf(x, "dark r");
        Trial.due(6, x, "off", 0, 11, 0);
        Trial.textOf(x, "dark k");
        Trial.due(14, x, "off", 0, 11, 0);
    }

    private static void numbers() {
        Trial.on("part 4, NUMBER (1 to 4 digits)");
        for (String n : new String[] {"0", "9", "00", "99", "000", "999", "0000", "9999", "0001"}) {
            gives(Integer.parseInt(n), n);
        }
        for (String n : new String[] {"00000", "00001", "10000", "99999", "123456789012"}) {
            fault(4, "fee " + n);
            fault(6, "fee 1+" + n);
            fault(5, "fee (" + n + ")");
        }
        fault(6, "fee 1 2");
        fault(9, "fee 1234 5");
        Trial.on("part 4, bytes beside the digits and the letters are signs");
        fault(5, "fee 1:");
        fault(4, "fee :");
        fault(5, "fee p`");
        fault(5, "fee p{");
        fault(4, "fee `");
        fault(4, "fee {");
        Trial.on("part 4, blanks are bytes 32 alone");
        for (char c : new char[] {0, 9, 10, 13, 31, 33 + 1, 160, 255}) {
            fault(4, "fee " + c + "1");
            fault(5, "fee 1" + c);
            fault(0, c + "fee 1");
        }
    }

    // ---- E

    private static void tooSoon() {
        Trial.on("part 4, the end, if it comes too soon: the place behind the last byte");
        fault(4, "fee ");
        for (String sign : new String[] {"|", "&", "<", "=", ">", "+", "-", "*", "/"}) {
            fault(6, "fee 1" + sign);
            fault(8, "fee 1" + sign + "  ");
            fault(4, "fee " + sign + "1");
            fault(6, "fee 1" + sign + sign + "1");
            fault(6, "fee 1" + sign + ")");
            fault(5, "fee (" + sign + "1)");
        }
        fault(5, "fee !");
        fault(6, "fee ! ");
        fault(5, "fee (");
        fault(6, "fee (1");
        fault(9, "fee (1   ");
        fault(7, "fee ((1");
        fault(8, "fee ((1)");
        fault(5, "fee ()");
        fault(4, "fee )");
    }

    private static void oneTest() {
        Trial.on("part 4, TEST: SUM [ (< | = | >) SUM ]: one sign at most");
        for (String one : new String[] {"<", "=", ">"}) {
            for (String two : new String[] {"<", "=", ">"}) {
                fault(7, "fee 1" + one + "2" + two + "3");
                fault(6, "fee 1" + one + two + "3");
                stands("fee (1" + one + "2)" + two + "3");
                stands("fee 1" + one + "(2" + two + "3)");
                stands("fee 1" + one + "2&1" + two + "3");
                stands("fee 1" + one + "2|1" + two + "3");
                fault(9, "fee 1" + one + "2+3" + two + "3");
                fault(11, "fee (1" + one + "2)" + two + "3" + two + "4");
            }
        }
        fault(5, "fee 1!=2");
        fault(6, "fee 1<=2");
        Trial.on("part 4, a sign with which no TEXT goes on");
        fault(5, "fee 1)");
        fault(5, "fee 1(2)");
        fault(5, "fee p(2)");
        fault(5, "fee 1!2");
        fault(7, "fee (1)2");
        fault(7, "fee (1)(2)");
        fault(7, "fee (1))");
        fault(4, "fee -1");
        fault(4, "fee +1");
        fault(7, "fee (1 2)");
    }

    private static void openOnes() {
        Trial.on("part 4, the ninth ( that would be open within others");
        for (int n = 1; n <= 8; n++) {
            stands("fee " + "(".repeat(n) + "1" + ")".repeat(n));
            fault(4 + 2 * n, "fee " + "(".repeat(n) + "1" + ")".repeat(n - 1));
            fault(5 + 2 * n, "fee " + "(".repeat(n) + "1" + ")".repeat(n + 1));
        }
        fault(12, "fee " + "(".repeat(9) + "1" + ")".repeat(9));
        fault(12, "fee " + "(".repeat(9));
        fault(12, "fee " + "(".repeat(8));
        fault(13, "fee " + "(".repeat(8) + " (");
        fault(14, "fee " + "(".repeat(8) + "1+(2)" + ")".repeat(8));
        stands("fee " + "(".repeat(8) + "1" + ")".repeat(8) + "+" + "(".repeat(8) + "1" + ")".repeat(8));
        stands("fee " + "(".repeat(7) + "(1)+(2)*(3)" + ")".repeat(7));
        stands("fee (1)+(2)+(3)+(4)+(5)+(6)+(7)+(8)+(9)+(1)");
        Trial.on("part 4, the ninth ! likewise");
        for (int n = 1; n <= 8; n++) {
            gives(n % 2 == 1 ? 0 : 1, "!".repeat(n) + "5");
        }
        fault(12, "fee " + "!".repeat(9) + "1");
        fault(12, "fee " + "!".repeat(9));
        fault(12, "fee " + "!".repeat(8));
        fault(13, "fee " + "!".repeat(8) + " !1");
        stands("fee " + "!".repeat(8) + "1+" + "!".repeat(8) + "1");
        stands("fee !1+!1+!1+!1+!1+!1+!1+!1+!1+!1");
    }

    private static void openOfBoth() {
        Trial.on("part 4, the ninth ( and the ninth !, each by itself");
        stands("fee " + "!".repeat(8) + "(".repeat(8) + "1" + ")".repeat(8));
        stands("fee " + "!(".repeat(8) + "1" + ")".repeat(8));
        stands("fee " + "(!".repeat(8) + "1" + ")".repeat(8));
        fault(20, "fee " + "!(".repeat(8) + "!1" + ")".repeat(8));
        fault(20, "fee " + "!(".repeat(8) + "(1)" + ")".repeat(8));
        fault(20, "fee " + "!".repeat(8) + "(".repeat(8) + "(1" + ")".repeat(9));
        fault(20, "fee " + "!".repeat(8) + "(".repeat(8) + "!1" + ")".repeat(8));
        fault(13, "fee !!!!!!!!(!1)");
        stands("fee !!!!!!!(!1)");
        stands("fee !!!!!!!!(1)+!!!!!!!!(1)");
        stands("fee !!!!!!!(!1+!1)*!1");
        stands("fee (!!!!!!!!1)+!1");
        for (String sign : new String[] {"|", "&", "<", "=", ">", "+", "-", "*", "/"}) {
            stands("fee (1" + sign + "!!!!!!!!1)");
            stands("fee ((((((((1" + sign + "!!!!!!!!1))))))))");
            fault(15, "fee (1" + sign + "!!!!!!!!!1)");
            fault(15, "fee !!!!(1" + sign + "!!!!!1)");
            stands("fee !!!!(1" + sign + "!!!!1)");
            stands("fee !!!!!!!!1" + sign + "((((((((1))))))))");
            fault(22, "fee !!!!!!!!1" + sign + "(((((((((1)))))))))");
            fault(14, "fee ((((((((1" + sign + "(1)))))))))");
        }
    }

    private static void theFirstFault() {
        Trial.on("part 4, FAULT: the first one, whatever comes behind it");
        fault(8, "fee ((1+)");
        fault(8, "fee ((1+))");
        fault(8, "fee ((1+)))");
        fault(8, "fee ((1 2)");
        fault(7, "fee ((1p)");
        fault(6, "fee (()");
        fault(7, "fee (((");
        fault(5, "fee (+");
        fault(6, "fee (!)");
        fault(6, "fee (!)+(");
        fault(4, "fee q+q+q");
        fault(4, "fee 12345+12345");
        fault(6, "fee 1+)+(");
        fault(9, "fee ((1)+)+)");
        fault(0, "fees fees )");
    }

    private static void blanks() {
        Trial.on("part 4, between words and signs, and at the ends, there may be blanks");
        gives(7, " ( 1 + 2 ) * 3 - 2 ");
        gives(1, "  !  !  7  ");
        gives(1, "1 < 2 & 3 > 2 | 0 = 1");
        stands("  fee  1  ");
        stands("fee 1" + " ".repeat(91));
        stands(" ".repeat(91) + "fee 1");
        stands("fee" + " ".repeat(92) + "1");
        fault(6, "fee 1 1");
        fault(6, "fee 9 9");
        fault(2, "  f ee 1");
    }

    private static void wholeTape() {
        Trial.on("part 4, THE TAPE (96 bytes at most): a TEXT and a FAULT as long");
        String most = "fee 1" + "+1".repeat(45);
        stands(most);
        stands(most + " ");
        fault(96, most + "+");
        fault(95, most + ")");
        fault(95, most + "p");
        fault(96, "fee (" + "1+".repeat(45) + "1");
        stands("fee (" + "1+".repeat(44) + "1 )");
        Trial.due("46 ones", Trial.fee("1" + "+1".repeat(45)), 46);
    }

    // ---- what it gives

    private static void loosestFirst() {
        Trial.on("part 4, E, the loosest first");
        gives(1, "1|0&0");
        gives(0, "(1|0)&0");
        gives(1, "0&0|1");
        gives(1, "1&2=2");
        gives(1, "(1&2)=1");
        gives(0, "2=1&2");
        gives(1, "1=0|1");
        gives(0, "1<0+1");
        gives(2, "(1<2)+1");
        gives(1, "1<2+1");
        gives(7, "1+2*3");
        gives(9, "(1+2)*3");
        gives(5, "7-4/2");
        gives(2, "!0*2");
        gives(0, "!(1*2)");
        gives(1, "!1+1");
        gives(1, "!p<1");
        Trial.on("part 4, one behind the other, from the left");
        gives(4, "9-3-2");
        gives(8, "9-(3-2)");
        gives(8, "9-3+2");
        gives(2, "16/4/2");
        gives(8, "16/(4/2)");
        gives(6, "7/2*2");
        gives(7, "7*2/2");
        gives(0, "1/2*2");
    }

    private static void tests() {
        Trial.on("part 4, tests, & | ! give 1 or 0 (what is not 0 is true)");
        gives(1, "1<2");
        gives(0, "2<2");
        gives(0, "3<2");
        gives(0, "1>2");
        gives(0, "2>2");
        gives(1, "3>2");
        gives(0, "1=2");
        gives(1, "2=2");
        gives(0, "0-2=2");
        gives(1, "0-1<0");
        gives(1, "5&7");
        gives(0, "5&0");
        gives(0, "0&5");
        gives(0, "0&0");
        gives(1, "(0-5)&7");
        gives(1, "2&4");
        gives(1, "5|0");
        gives(1, "0|5");
        gives(0, "0|0");
        gives(1, "5|7");
        gives(1, "0|0-3");
        gives(0, "!5");
        gives(1, "!0");
        gives(0, "!(0-1)");
        gives(1, "!!(0-1)");
        gives(1, "5&3&2");
        gives(1, "0|0|9");
        Trial.on("part 4, both sides are worked out");
        gives(1, "1|1/0");
        gives(0, "0&1/0");
        gives(1, "1/0|1");
    }

    private static void wraps() {
        Trial.on("part 4, / cuts towards 0; / is 0 by 0");
        gives(3, "7/2");
        gives(-3, "(0-7)/2");
        gives(-3, "7/(0-2)");
        gives(3, "(0-7)/(0-2)");
        gives(0, "1/2");
        gives(0, "(0-1)/2");
        gives(0, "7/0");
        gives(0, "0/0");
        gives(5, "7/0+5");
        gives(0, "7/(1-1)");
        Trial.on("part 4, ints wrap");
        gives(LEAST, "2048*1024*1024");
        gives(Trial.MOST, "2048*1024*1024-1");
        gives(LEAST, "(2048*1024*1024-1)+1");
        gives(Trial.MOST, "(0-2048*1024*1024)-1");
        gives(LEAST, "0-2048*1024*1024");
        gives(LEAST, "2048*1024*1024/(0-1)");
        gives(LEAST, "2048*1024*1024*(0-1)");
        gives(0, "2048*1024*1024*2");
        gives(9999 * 9999 * 9999, "9999*9999*9999");
        gives(1, "2048*1024*1024<0");
        gives(1, "2048*1024*1024=0-2048*1024*1024");
    }

    public static void main(String[] args) {
        feeds();
        trims();
        usedUp();
        fourteen();
        theLastCounts();
        toldOfATextWithKeys();
        keys();
        everySignBetween();
        everyName();
        numbers();
        tooSoon();
        oneTest();
        openOnes();
        openOfBoth();
        theFirstFault();
        blanks();
        wholeTape();
        loosestFirst();
        tests();
        wraps();
        Trial.end();
    }
}
