/** The bounds of what is only thought: part 3 of the document's terms, promises 16 to 26. */
public final class BoundsOfThoughtsTest {
    private static final int NONE = Trial.NONE;

    // ---- the best laying

    private static void tooFew() {
        Trial.on("promise 16, m (1 .. 6); NONE: there are too few");
        for (int m = 1; m <= 6; m++) {
            for (int many = 0; many <= 7; many++) {
                DominoKing x = new DominoKing();
                for (int cell = 0; cell < 24; cell++) {
                    x.want(cell, cell);
                }
                Trial.stones(x, many, 5, 0, 0);
                Trial.due(many < m ? NONE : m * (2 * m - 1), x, "best", m, 0);
                Trial.due(many < m ? NONE : 0, x, "best", m, 1);
            }
        }
    }

    private static void whichCount() {
        Trial.on("part 3, STONES that are in the box or on these PLACES; all other ones stay");
        for (int m = 1; m <= 6; m++) {
            DominoKing x = Trial.darkRoom();
            Trial.stones(x, m, 0, 1, 1);
            for (int place = 0; place < 12; place++) {
                x.put(m - 1, place, 0);
                Trial.due(place < m ? 30 * m : NONE, x, "best", m, 0);
                Trial.due(place < m ? 0 : NONE, x, "best", m, 1);
            }
        }
        DominoKing x = Trial.darkRoom();
        x.stone(5, 0, 0);
        x.stone(0, 6, 6);
        x.stone(0, 4, 4);
        x.put(0, 2, 0);
        Trial.due(120 + 180, x, "best", 2, 0);
        Trial.due(1, x, "best", 2, 1);
        Trial.due(0 + 120 + 180, x, "best", 3, 0);
        Trial.due(0, x, "best", 3, 1);
        x.put(0, 1, 0);
        Trial.due(120, x, "best", 2, 0);
        Trial.due(0, x, "best", 2, 1);
        Trial.due(120, x, "best", 1, 0);
        Trial.due(2, x, "best", 1, 1);
    }

    private static void leastOfAllWays() {
        Trial.on("part 3, of all ways the least OFF together, not the least PLACE by PLACE");
        DominoKing x = new DominoKing();
        x.stone(0, 1, 1);
        x.stone(0, 6, 6);
        x.want(2, 15);
        x.want(3, 15);
        Trial.due(80, x, "best", 2, 0);
        Trial.due(1, x, "best", 2, 1);
        Trial.due(70, x, "best", 1, 0);
        Trial.due(0, x, "best", 1, 1);
        Trial.on("part 3, TURNED or not, whichever way it lies now");
        DominoKing y = Trial.darkRoom();
        y.stone(0, 0, 6);
        y.want(0, 90);
        y.put(0, 0, 0);
        Trial.due(0, y, "best", 1, 0);
        y.put(0, 0, 1);
        Trial.due(0, y, "best", 1, 0);
        y.want(0, 0);
        y.want(1, 90);
        Trial.due(0, y, "best", 1, 0);
        Trial.on("part 3, the row of a PLACE counts: 0 .. 5 are of two rows");
        DominoKing rows = Trial.darkRoom();
        Trial.stones(rows, 6, 0, 1, 1);
        Trial.textOf(rows, "dark s+r*10");
        Trial.due(6, rows, "best", 3, 0);
        Trial.due(6 + 3 * 22, rows, "best", 6, 0);
    }

    private static void ofSeveralTheLeast() {
        Trial.on("part 3, which STONE is on PLACE 0 then: of several the least");
        DominoKing x = Trial.darkRoom();
        x.stone(0, 0, 0);
        x.stone(0, 6, 6);
        x.stone(0, 6, 6);
        x.want(0, 90);
        x.want(1, 90);
        Trial.due(0, x, "best", 2, 0);
        Trial.due(1, x, "best", 2, 1);
        x.put(1, 11, 0);
        Trial.due(2, x, "best", 2, 1);
        DominoKing any = new DominoKing();
        any.stone(0, 6, 6);
        any.stone(5, 0, 0);
        Trial.wantAll(any, 45);
        Trial.due(180, any, "best", 2, 0);
        Trial.due(0, any, "best", 2, 1);
        any.want(0, 44);
        Trial.due(179, any, "best", 2, 0);
        Trial.due(1, any, "best", 2, 1);
        Trial.on("part 3, twelve STONES, the last of them on PLACE 0; OFF as great as it can be");
        DominoKing last = Trial.darkRoom();
        Trial.stones(last, 11, 0, 5, 5);
        last.stone(0, 1, 1);
        last.want(0, 1);
        for (int cell = 2; cell < 12; cell++) {
            last.want(cell, 99);
        }
        Trial.due(11, last, "best", 1, 1);
        Trial.due(11, last, "best", 6, 1);
        Trial.due(14 + 15 + 10 * 24, last, "best", 6, 0);
        DominoKing far = new DominoKing();
        Trial.wantAll(far, 99);
        Trial.stones(far, 12, 5, 6, 6);
        Trial.due(6 * 198, far, "best", 6, 0);
        Trial.due(0, far, "best", 6, 1);
    }

    // ---- the best for a place

    private static void bestFor() {
        Trial.on("promise 17, the STONE (of all), TURNED or not; of several the least");
        for (int place = 0; place < 12; place++) {
            DominoKing x = Trial.darkRoom();
            Trial.due(NONE, x, "bestFor", place, 0);
            Trial.due(NONE, x, "bestFor", place, 1);
            x.stone(0, 6, 6);
            Trial.due(0, x, "bestFor", place, 0);
            Trial.due(180, x, "bestFor", place, 1);
            x.stone(0, 0, 6);
            x.stone(0, 6, 0);
            x.want(2 * place, 89);
            Trial.due(1, x, "bestFor", place, 0);
            Trial.due(1, x, "bestFor", place, 1);
            x.put(1, 11 - place, 0);
            Trial.due(1, x, "bestFor", place, 0);
            x.turns(1, 5);
            Trial.due(2, x, "bestFor", place, 0);
            x.want(2 * place, 44);
            x.put(2, place, 1);
            Trial.due(1, x, "bestFor", place, 0);
            Trial.due(44, x, "bestFor", place, 1);
            x.want(2 * place, 45);
            Trial.due(1, x, "bestFor", place, 0);
            Trial.due(45, x, "bestFor", place, 1);
            x.want(2 * place, 46);
            Trial.due(2, x, "bestFor", place, 0);
            Trial.due(44, x, "bestFor", place, 1);
        }
        DominoKing x = new DominoKing();
        Trial.wantAll(x, 99);
        Trial.stones(x, 12, 5, 0, 0);
        Trial.due(0, x, "bestFor", 11, 0);
        Trial.due(198, x, "bestFor", 11, 1);
        x.turns(11, 2);
        Trial.due(11, x, "bestFor", 11, 0);
        Trial.due(0, x, "bestFor", 11, 1);
    }

    // ---- the swap

    private static void swapOfTwo() {
        Trial.on("promise 18, two STONES that are laid; less than as it is; NONE");
        DominoKing x = Trial.darkRoom();
        Trial.due(NONE, x, "swap");
        x.stone(5, 0, 0);
        x.stone(0, 1, 1);
        x.want(0, 15);
        x.want(1, 15);
        x.put(0, 0, 0);
        Trial.due(NONE, x, "swap");
        x.put(1, 11, 0);
        Trial.due(1, x, "swap");
        x.box(0);
        Trial.due(NONE, x, "swap");
        Trial.on("promise 18, as much is not less; less by one is");
        DominoKing y = Trial.darkRoom();
        y.stone(0, 0, 1);
        y.stone(5, 0, 0);
        Trial.textOf(y, "dark r*s");
        y.put(0, 1, 0);
        y.put(1, 2, 0);
        Trial.due(NONE, y, "swap");
        y.put(0, 3, 0);
        Trial.due(1, y, "swap");
        y.put(1, 5, 0);
        Trial.due(NONE, y, "swap");
        Trial.on("promise 18, each TURNED or not as it is");
        DominoKing turned = Trial.darkRoom();
        turned.stone(0, 0, 6);
        turned.stone(0, 0, 6);
        turned.want(0, 90);
        turned.want(3, 90);
        turned.put(0, 0, 0);
        turned.put(1, 1, 1);
        Trial.due(1, turned, "swap");
        turned.put(0, 0, 1);
        Trial.due(NONE, turned, "swap");
        turned.put(1, 1, 0);
        Trial.due(NONE, turned, "swap");
    }

    /** Twelve laid, stone p on place p, all of no spots where 0 is wanted; then pairs that stand in each other's place. */
    private static DominoKing crossed(int[][] pairs) {
        DominoKing x = new DominoKing();
        int[] spots = new int[12];
        int[] wants = new int[12];
        for (int[] pair : pairs) {
            spots[pair[0]] = pair[2];
            wants[pair[1]] = pair[2];
        }
        for (int i = 0; i < 12; i++) {
            x.put(x.stone(0, spots[i], spots[i]), i, 0);
            x.want(2 * i, 15 * wants[i]);
            x.want(2 * i + 1, 15 * wants[i]);
        }
        return x;
    }

    private static void swapOfSeveral() {
        Trial.on("promise 18, PICTURE least; 100 times the lesser, and the other one; of several the first");
        Trial.due(1, crossed(new int[][] {{0, 1, 1}}), "swap");
        Trial.due(1, crossed(new int[][] {{1, 0, 1}}), "swap");
        Trial.due(11, crossed(new int[][] {{0, 11, 6}}), "swap");
        Trial.due(11, crossed(new int[][] {{11, 0, 6}}), "swap");
        Trial.due(1011, crossed(new int[][] {{11, 10, 3}}), "swap");
        Trial.due(2, crossed(new int[][] {{0, 11, 3}, {1, 2, 3}}), "swap");
        Trial.due(11, crossed(new int[][] {{0, 11, 3}, {9, 10, 2}}), "swap");
        Trial.due(102, crossed(new int[][] {{0, 11, 3}, {1, 2, 4}}), "swap");
        Trial.due(102, crossed(new int[][] {{2, 1, 2}, {10, 11, 2}}), "swap");
        Trial.due(1011, crossed(new int[][] {{2, 1, 2}, {10, 11, 3}}), "swap");
        Trial.due(NONE, crossed(new int[][] {}), "swap");
        Trial.due(1, crossed(new int[][] {{0, 1, 1}, {2, 3, 1}}), "swap");
    }

    /** The picture of strewn stones with two of them changed, each turned as it is. */
    private static int pictureChanged(int many, int bits, int one, int other) {
        DominoKing x = Trial.strewn(many, bits);
        x.box(one);
        x.box(other);
        x.put(one, Trial.strewnTo(other), bits >> one & 1);
        x.put(other, Trial.strewnTo(one), bits >> other & 1);
        return x.king(0);
    }

    private static void swapOfStrewn() {
        Trial.on("promise 18, as if the two were laid so");
        for (int bits : new int[] {0, 4095, 1365, 2730, 77, 3001, 512, 19, 2222, 911}) {
            int many = 2 + bits % 11;
            DominoKing x = Trial.strewn(many, bits);
            int least = x.king(0);
            int pair = NONE;
            for (int one = 0; one < many; one++) {
                for (int other = one + 1; other < many; other++) {
                    int picture = pictureChanged(many, bits, one, other);
                    if (picture < least) {
                        least = picture;
                        pair = 100 * one + other;
                    }
                }
            }
            Trial.due(pair, x, "swap");
        }
        Trial.on("promise 18, one of the two is TURNED: it stays so");
        for (int turns = 0; turns < 4; turns++) {
            for (int wants = 0; wants < 16; wants++) {
                DominoKing x = new DominoKing();
                x.stone(0, 0, 6);
                x.stone(0, 2, 5);
                x.put(0, 0, turns & 1);
                x.put(1, 1, turns >> 1);
                for (int cell = 0; cell < 4; cell++) {
                    x.want(cell, (wants >> cell & 1) * 80);
                }
                int is = x.off(0, 0, turns & 1) + x.off(1, 1, turns >> 1);
                int would = x.off(0, 1, turns & 1) + x.off(1, 0, turns >> 1);
                Trial.due(would < is ? 1 : NONE, x, "swap");
            }
        }
    }

    // ---- what falls

    private static void falls() {
        Trial.on("promise 19, no more HEAVY than twice the one that pushes");
        for (int pushes = 0; pushes <= 6; pushes++) {
            for (int next = 0; next <= 12; next++) {
                DominoKing x = new DominoKing();
                x.stone(0, pushes, 0);
                x.stone(0, next / 2, next - next / 2);
                x.put(0, 2, 0);
                x.put(1, 3, 1);
                Trial.due(next <= 2 * pushes ? 2 : 1, x, "knocked", 2);
                Trial.due(1, x, "knocked", 3);
                Trial.due(0, x, "knocked", 1);
                Trial.due(0, x, "knocked", 4);
            }
        }
        Trial.on("promise 19, the one that pushes is the one right ahead, by its KIND");
        DominoKing x = new DominoKing();
        x.stone(0, 1, 0);
        x.stone(0, 1, 1);
        x.stone(0, 2, 2);
        x.stone(0, 4, 4);
        for (int i = 0; i < 4; i++) {
            x.put(i, 1 + i, 0);
        }
        for (int i = 0; i < 4; i++) {
            Trial.due(4 - i, x, "knocked", 1 + i);
        }
        x.turns(1, 5);
        Trial.due(2, x, "knocked", 1);
        x.turns(1, 1);
        Trial.due(1, x, "knocked", 1);
        Trial.due(3, x, "knocked", 2);
    }

    private static void fallsToTheEnd() {
        Trial.on("promise 19, over the ends of rows, too; the last one pushes none; a gap ends it");
        DominoKing x = Trial.allLaid(0, 3, 3);
        for (int place = 0; place < 12; place++) {
            Trial.due(12 - place, x, "knocked", place);
        }
        Trial.due(0, x, "push", 0);
        Trial.due(12, x, "push", 1);
        for (int gap = 0; gap < 12; gap++) {
            x.box(gap);
            for (int place = 0; place < 12; place++) {
                Trial.due(place > gap ? 12 - place : gap - place, x, "knocked", place);
            }
            Trial.due(gap >= 6 ? 0 : gap + 1, x, "push", 0);
            Trial.due(Math.max(gap, 11 - gap), x, "push", 1);
            x.put(gap, gap, 0);
        }
    }

    private static void pushes() {
        Trial.on("promise 20, nothing laid: PLACE 0, none falls");
        DominoKing x = new DominoKing();
        x.deal(12);
        Trial.due(0, x, "push", 0);
        Trial.due(0, x, "push", 1);
        Trial.on("promise 20, of several the least; every PLACE");
        for (int place = 0; place < 12; place++) {
            DominoKing one = new DominoKing();
            Trial.stones(one, 3, 0, 1, 1);
            one.put(0, place, 0);
            Trial.due(place, one, "push", 0);
            Trial.due(1, one, "push", 1);
        }
        DominoKing y = new DominoKing();
        Trial.stones(y, 6, 0, 1, 1);
        y.put(0, 1, 0);
        y.put(1, 4, 0);
        Trial.due(1, y, "push", 0);
        y.put(2, 10, 0);
        y.put(3, 11, 0);
        Trial.due(10, y, "push", 0);
        Trial.due(2, y, "push", 1);
        y.put(4, 5, 0);
        Trial.due(4, y, "push", 0);
        Trial.due(2, y, "push", 1);
    }

    // ---- what will be

    private static DominoKing windyLot(int z, int stones) {
        DominoKing x = new DominoKing();
        x.seed(z);
        x.deal(stones);
        x.put(0, 4, 1);
        x.wind(45);
        x.want(9, 99);
        return x;
    }

    private static void behindDays() {
        Trial.on("promise 21, BEHIND n (0 .. 100) DAYS");
        for (int n : new int[] {0, 1, 2, 99, 100}) {
            DominoKing x = windyLot(n, 9);
            DominoKing y = windyLot(n, 9);
            if (n > 0) {
                y.days(n);
            }
            for (int what = 0; what < 3; what++) {
                Trial.due(y.king(what), x, "behind", n, what);
            }
            for (int place = 0; place < 12; place++) {
                Trial.due(y.at(place), x, "behind", n, 3 + place);
            }
        }
        Trial.on("promise 21, 3 and p: NONE: none");
        DominoKing bare = new DominoKing();
        for (int place = 0; place < 12; place++) {
            Trial.due(NONE, bare, "behind", 0, 3 + place);
            Trial.due(NONE, bare, "behind", 100, 3 + place);
        }
        bare.stone(0, 0, 0);
        bare.put(0, 11, 0);
        Trial.due(0, bare, "behind", 100, 14);
        Trial.due(NONE, bare, "behind", 100, 13);
    }

    private static void withoutTheBound() {
        Trial.on("part 3, without the bound of THE DAY");
        for (int day : new int[] {9999, 9998, 9940}) {
            DominoKing late = Trial.atDay(day);
            DominoKing early = new DominoKing();
            for (DominoKing x : new DominoKing[] {late, early}) {
                x.seed(31);
                x.deal(12);
                x.wind(70);
            }
            for (int what = 0; what < 15; what++) {
                Trial.due(early.behind(100, what), late, "behind", 100, what);
            }
            Trial.due(12, late, "behind", 100, 2);
            Trial.due(early.laid(), late, "laid");
            Trial.due(early.lost(60, 0), late, "lost", 60, 0);
            Trial.due(early.lost(60, 1), late, "lost", 60, 1);
            Trial.due(day, late, "count", 1);
        }
    }

    private static void laid() {
        Trial.on("promise 22, behind 0 DAYS: no STONES, the box is empty, all PLACES hold one");
        DominoKing x = new DominoKing();
        Trial.due(0, x, "laid");
        x.stone(0, 1, 1);
        x.put(0, 7, 0);
        Trial.due(0, x, "laid");
        x.box(0);
        x.seed(7);
        Trial.due(1, x, "laid");
        Trial.due(0, Trial.allLaid(0, 1, 1), "laid");
        Trial.on("promise 22, first: not a DAY ahead");
        for (int z = 1; z <= 40; z++) {
            DominoKing y = windyLot(z, 1 + z % 12);
            int n = y.laid();
            Trial.due("all laid behind " + n, y.behind(n, 2), 1 + z % 12);
            if (n > 0) {
                Trial.due("one DAY ahead", y.behind(n - 1, 2) < 1 + z % 12 ? 1 : 0, 1);
            }
        }
        Trial.on("promise 22, one PLACE is left: till its row is drawn");
        for (int place = 0; place < 12; place++) {
            DominoKing y = Trial.allLaid(0, 1, 1);
            y.box(place);
            y.seed(90 + place);
            int n = 1;
            while (Trial.draw(90 + place, 2 * n - 1) % 4 != place / 3) {
                n++;
            }
            Trial.due(n, y, "laid");
        }
    }

    /**
     * The DAY by which each row has surely been drawn three times, whatever z and WIND are. The row is told by the lowest
     * ten bits of z, which go round by themselves in 1024 draws, and a DAY draws twice or three times: all ways are gone.
     */
    private static int latestDay() {
        int latest = 0;
        for (int row = 0; row < 4; row++) {
            boolean[][] can = new boolean[1024][3];
            for (boolean[] low : can) {
                low[0] = true;
            }
            int days = 0;
            for (boolean any = true; any && days < 1000; days++) {
                boolean[][] then = new boolean[1024][3];
                any = false;
                for (int low = 0; low < 1024; low++) {
                    for (int seen = 0; seen < 3; seen++) {
                        int now = seen + (Trial.draw(low, 1) % 4 == row ? 1 : 0);
                        if (can[low][seen] && now < 3) {
                            then[Trial.next(low, 2) & 1023][now] = true;
                            then[Trial.next(low, 3) & 1023][now] = true;
                            any = true;
                        }
                    }
                }
                can = then;
            }
            latest = Math.max(latest, days);
        }
        return latest;
    }

    private static void neverNone() {
        Trial.on("promise 22, NONE: not by then: no run comes to that, all is laid by DAY 124 at the latest");
        Trial.due("the latest DAY", latestDay(), 124);
        for (int wind : new int[] {0, 1, 50, 99, 100}) {
            for (int z = 0; z < 1024; z++) {
                DominoKing x = new DominoKing();
                Trial.stones(x, 12, 0, 3, 3);
                x.wind(wind);
                x.seed(z);
                int n = x.laid();
                Trial.due("laid() of z " + z, n >= 12 && n <= 124 ? 1 : 0, 1);
            }
        }
    }

    /** The same table from its beginning, without one of its stones. */
    private static DominoKing without(int lost, int[][] stones, int[] places) {
        DominoKing x = new DominoKing();
        for (int i = 0; i < stones.length; i++) {
            if (i != lost) {
                int number = x.stone(stones[i][0], stones[i][1], stones[i][2]);
                if (places[i] < 12) {
                    x.put(number, places[i], i % 2);
                }
            }
        }
        x.wind(33);
        x.want(6, 80);
        x.seed(4242);
        return x;
    }

    private static void lost() {
        Trial.on("promise 23, the STONE without which PICTURE behind n (0 .. 60) DAYS is least");
        int[][] stones = {{0, 1, 2}, {1, 6, 3}, {2, 0, 5}, {3, 4, 4}, {4, 2, 6}, {5, 1, 1}, {0, 6, 6}};
        int[] places = {12, 0, 12, 5, 6, 12, 11};
        for (int n : new int[] {0, 1, 2, 5, 59, 60}) {
            int least = Integer.MAX_VALUE;
            int which = -1;
            for (int i = 0; i < stones.length; i++) {
                int picture = without(i, stones, places).behind(n, 0);
                if (picture < least) {
                    least = picture;
                    which = i;
                }
            }
            DominoKing x = without(-1, stones, places);
            Trial.due(which, x, "lost", n, 0);
            Trial.due(least, x, "lost", n, 1);
        }
    }

    private static void lostOfFew() {
        Trial.on("promise 23, it is never laid; if it is laid now, its PLACE holds nothing");
        DominoKing x = Trial.darkRoom();
        x.stone(5, 0, 0);
        for (int n : new int[] {0, 1, 60}) {
            Trial.due(0, x, "lost", n, 0);
            Trial.due(24 * 99, x, "lost", n, 1);
        }
        x.put(0, 3, 0);
        Trial.due(22 * 99, x, "king", 0);
        for (int n : new int[] {0, 1, 60}) {
            Trial.due(0, x, "lost", n, 0);
            Trial.due(24 * 99, x, "lost", n, 1);
        }
        Trial.on("promise 23, of several the least; less by one goes ahead");
        x.stone(5, 0, 0);
        x.put(1, 11, 0);
        Trial.due(0, x, "lost", 0, 0);
        Trial.due(22 * 99, x, "lost", 0, 1);
        x.want(22, 1);
        Trial.due(1, x, "lost", 0, 0);
        Trial.due(22 * 99, x, "lost", 0, 1);
        x.want(6, 1);
        Trial.due(0, x, "lost", 0, 0);
        Trial.due(22 * 99 + 1, x, "lost", 0, 1);
        Trial.on("promise 23, the last of twelve");
        DominoKing y = Trial.allLaid(5, 0, 0);
        Trial.wantAll(y, 0);
        y.want(23, 99);
        y.want(22, 98);
        Trial.due(11, y, "lost", 0, 0);
        Trial.due(198, y, "lost", 0, 1);
        y.want(22, 99);
        y.want(21, 99);
        y.want(20, 99);
        Trial.due(10, y, "lost", 60, 0);
    }

    // ---- whose picture it was

    private static void seenCells() {
        Trial.on("promise 24, places 0 .. 5 against the row's six CELLS");
        for (int row = 0; row < 4; row++) {
            for (int cell = 0; cell < 6; cell++) {
                DominoKing x = new DominoKing();
                x.stone(0, 6, 0);
                x.put(0, 3 * row + cell / 2, cell % 2);
                x.sheet(0, 0, 7);
                x.mark(0, 6, 1000);
                x.mark(0, cell, 91);
                Trial.due(row, x, "seen", 0, 0);
                Trial.due(1, x, "seen", 0, 1);
                x.mark(0, cell, 45);
                Trial.due(0, x, "seen", 0, 0);
                Trial.due(45, x, "seen", 0, 1);
                x.mark(0, cell, 46);
                Trial.due(row, x, "seen", 0, 0);
                Trial.due(44, x, "seen", 0, 1);
                x.mark(0, cell, 44);
                Trial.due(44, x, "seen", 0, 1);
                Trial.due(row == 0 ? 1 : 0, x, "seen", 0, 0);
            }
        }
    }

    private static void seenPlaces() {
        Trial.on("promise 24, a SHEET of fewer places, NO NUMBER: of other places 0");
        for (int n = 0; n <= 7; n++) {
            DominoKing x = Trial.allLaid(0, 1, 1);
            x.sheet(3, 1, n);
            Trial.due(0, x, "seen", 3, 0);
            Trial.due(15 * Math.min(n, 6), x, "seen", 3, 1);
            for (int i = 0; i < n; i++) {
                x.mark(3, i, NONE);
                Trial.due(15 * (i < 6 ? Math.min(n, 6) - i - 1 : 0), x, "seen", 3, 1);
            }
        }
        Trial.on("promise 24, signs left out; the greatest differences");
        DominoKing x = Trial.allLaid(0, 6, 6);
        Trial.textOf(x, "dark 99");
        x.sheet(0, 1, 6);
        x.sheet(1, 0, 6);
        for (int i = 0; i < 6; i++) {
            x.mark(0, i, -99999);
            x.mark(1, i, 32768);
        }
        Trial.due(6 * (99999 + 99), x, "seen", 0, 1);
        Trial.due(6 * (32768 + 99), x, "seen", 1, 1);
        for (int i = 0; i < 6; i++) {
            x.mark(0, i, i % 2 == 0 ? 99999 : 98);
            x.mark(1, i, 32767);
        }
        Trial.due(3 * (99999 - 99) + 3, x, "seen", 0, 1);
        Trial.due(6 * (32767 - 99), x, "seen", 1, 1);
        Trial.on("promise 24, 0 of a CELL on which nothing is; DARK by the row");
        x.box(9);
        x.box(10);
        x.box(11);
        x.sheet(2, 0, 6);
        Trial.due(3, x, "seen", 2, 0);
        Trial.due(0, x, "seen", 2, 1);
        Trial.textOf(x, "dark r*5+1");
        for (int[] of : new int[][] {{0, 3, 0}, {1, 0, 0}, {3, 0, 12}, {4, 1, 12}, {6, 1, 0}, {8, 1, 12}, {9, 2, 12}, {11, 2, 0}}) {
            for (int i = 0; i < 6; i++) {
                x.mark(2, i, of[0]);
            }
            Trial.due(of[1], x, "seen", 2, 0);
            Trial.due(of[2], x, "seen", 2, 1);
        }
    }

    private static void seenStrewn() {
        Trial.on("promise 24, DARK as they are laid: of the STONE at the PLACE, in its row");
        for (int bits : new int[] {0, 4095, 1365, 2730, 77}) {
            DominoKing x = Trial.strewn(11, bits);
            Trial.textOf(x, "dark s*9+r*r*5");
            x.sheet(1, 0, 6);
            int least = Integer.MAX_VALUE;
            int which = -1;
            for (int i = 0; i < 6; i++) {
                x.mark(1, i, 7 * i + bits % 50);
            }
            for (int row = 0; row < 4; row++) {
                int sum = 0;
                for (int i = 0; i < 6; i++) {
                    int stone = x.at(3 * row + i / 2);
                    int dark = stone == NONE ? 0 : Math.min(99, 9 * Trial.spots(x, stone, i % 2) + 5 * row * row);
                    sum += Math.abs(dark - 7 * i - bits % 50);
                }
                if (sum < least) {
                    least = sum;
                    which = row;
                }
            }
            Trial.due(which, x, "seen", 1, 0);
            Trial.due(least, x, "seen", 1, 1);
        }
    }

    private static void fees() {
        Trial.on("promise 25, without a TEXT: PICTURE; with one: p, m");
        DominoKing x = Trial.allLaid(0, 4, 4);
        Trial.due(24 * 10, x, "fee");
        Trial.textOf(x, "fee p*10+m");
        Trial.due(2408, x, "fee");
        x.box(0);
        Trial.due((22 * 10 + 198) * 10 + 7, x, "fee");
        DominoKing bare = new DominoKing();
        Trial.due(24 * 99, bare, "fee");
        Trial.textOf(bare, "fee p*10+m");
        Trial.due(24 * 99 * 10, bare, "fee");
    }

    private static void fines() {
        Trial.on("promise 26, without a TEXT: LEFT; with one: l, r, t");
        DominoKing x = new DominoKing();
        for (int i = 0; i < 12; i++) {
            x.stone(i % 6, i % 7, 6 - i % 7);
            Trial.due(i % 7, x, "fine", i);
            Trial.due(Trial.BAD, x, "fine", i + 1);
        }
        x.put(11, 0, 1);
        Trial.due(11 % 7, x, "fine", 11);
        Trial.textOf(x, "fine l*100+r*10+t");
        for (int i = 0; i < 12; i++) {
            Trial.due(100 * (i % 7) + 10 * (6 - i % 7) + (i == 11 ? 1 : 0), x, "fine", i);
        }
        x.box(11);
        Trial.due(100 * 4 + 10 * 2 + 1, x, "fine", 11);
        x.put(11, 0, 0);
        Trial.due(100 * 4 + 10 * 2, x, "fine", 11);
    }

    public static void main(String[] args) {
        tooFew();
        whichCount();
        leastOfAllWays();
        ofSeveralTheLeast();
        bestFor();
        swapOfTwo();
        swapOfSeveral();
        swapOfStrewn();
        falls();
        fallsToTheEnd();
        pushes();
        behindDays();
        withoutTheBound();
        laid();
        neverNone();
        lost();
        lostOfFew();
        seenCells();
        seenPlaces();
        seenStrewn();
        fees();
        fines();
        Trial.end();
    }
}
