// Promises 20 to 29: each sentence that names an edge, by itself. Show.java tells how.
public final class WaxEdgesTest {
    private static final int NONE = Show.NONE, BAD = Show.BAD, NO = Show.NO, FULL = Show.FULL;

    public static void main(String[] args) {
        heat();
        waxInHeat();
        touch();
        repairIsDue();
        repair();
        due();
        tell();
        tellOfLikeOnes();
        tellLeavesOut();
        likeness();
        known();
        about();
        count();
        digest();
        digestOfAll();
        calls();
        Show.end();
    }

    // ---- Promise 20

    private static void heat() {
        Show.sentence("20: at a HEAT (0 .. 60)");
        Show.of(1).due(0, "heat", 0, 0, 1);
        Show.of(1).due(30, "heat", 0, 60, 1);
        Show.outside(() -> Show.of(2), BAD, 1, 0, 60, "heat", 1, 50, 3);

        Show.sentence("20: n hours (1 .. 50)");
        Show.of(1).due(30, "heat", 0, 60, 1);
        Show.of(1).due(1500, "heat", 0, 60, 50);
        Show.outside(() -> Show.of(2), BAD, 2, 1, 50, "heat", 1, 50, 3);

        Show.sentence("20: BAD: a FIGURE that is not there");
        Show.figureNumbers(BAD, 40, "heat", 50, 2);

        Show.sentence("20: BAD changes nothing: neither SAG nor WAX");
        Show s = Show.of(1);
        s.due(60, "heat", 0, 50, 3);
        for (int[] row : new int[][] {{0, 61, 1}, {0, -1, 1}, {0, 60, 0}, {0, 60, 51}, {1, 60, 1}}) {
            s.refused(BAD, "heat", row);
        }
        s.due(60, "about", 0, 4);
        s.due(994, "about", 0, 3);

        Show.sentence("20: of each hour SAG grows by HEAT less 30, if that is above 0");
        for (int heat = 0; heat <= 60; heat++) {
            int grows = heat <= 30 ? 0 : heat - 30;
            for (int n : new int[] {1, 2, 49, 50}) {
                Show t = Show.of(2);
                t.due((long) n * grows, "heat", 1, heat, n);
                t.due((long) n * grows, "about", 1, 4);
                t.due(0, "about", 0, 4);
            }
        }

        Show.sentence("20: a HEAT below 30 takes no SAG away");
        Show u = Show.of(1);
        u.due(1, "heat", 0, 31, 1);
        u.due(1, "heat", 0, 30, 50);
        u.due(1, "heat", 0, 29, 50);
        u.due(1, "heat", 0, 0, 50);
    }

    private static void waxInHeat() {
        Show.sentence("20: WAX (1000 at first), SAG and TOUCHES (0 at first)");
        Show first = Show.of(8);
        for (int f = 0; f < 8; f++) {
            first.due(1000, "about", f, 3);
            first.due(0, "about", f, 4);
            first.due(0, "about", f, 5);
        }

        Show.sentence("20: WAX is HEAT by 20, cut, less: of each hour");
        int[][] rows = {{0, 0}, {19, 0}, {20, 1}, {39, 1}, {40, 2}, {59, 2}, {60, 3}};
        for (int[] row : rows) {
            for (int n : new int[] {1, 3, 50}) {
                Show s = Show.of(2);
                s.ask("heat", 1, row[0], n);
                s.due(1000 - n * row[1], "about", 1, 3);
                s.due(1000, "about", 0, 3);
            }
        }

        Show.sentence("20: but not below 100");
        // 250 hours at 60, 49 more of them: 103
        int[][] last = {{20, 1, 102}, {40, 1, 101}, {60, 1, 100}, {60, 2, 100}, {60, 50, 100}, {0, 50, 103}};
        for (int[] row : last) {
            Show s = Show.of(1);
            for (int i = 1; i <= 5; i++) {
                s.due(1500 * i, "heat", 0, 60, 50);
            }
            s.due(8970, "heat", 0, 60, 49);
            s.due(103, "about", 0, 3);
            s.ask("heat", 0, row[0], row[1]);
            s.due(row[2], "about", 0, 3);
        }
        Show cut = Show.of(1);
        for (int i = 1; i <= 5; i++) {
            cut.due(1500 * i, "heat", 0, 60, 50);
        }
        cut.due(8970, "heat", 0, 60, 49);
        cut.ask("heat", 0, 40, 1);
        cut.due(101, "about", 0, 3);
        cut.ask("heat", 0, 40, 1);
        cut.due(100, "about", 0, 3);
        cut.ask("heat", 0, 60, 50);
        cut.due(100, "about", 0, 3);
    }

    // ---- Promise 21

    private static void touch() {
        Show.sentence("21: n TOUCHES more (0 .. 50): how many then");
        Show s = Show.of(2);
        s.tells(0, "touch", 1, 0);
        s.due(50, "touch", 1, 50);
        s.due(51, "touch", 1, 1);
        s.due(51, "touch", 1, 0);
        s.due(100, "touch", 1, 49);
        s.due(0, "about", 0, 5);
        Show.outside(() -> Show.of(2), BAD, 1, 0, 50, "touch", 1, 5);

        Show.sentence("21: 1000 at most");
        int[][] rows = {{1, 951}, {48, 998}, {49, 999}, {50, 1000}};
        for (int[] row : rows) {
            Show t = touched(950);
            t.due(row[1], "touch", 0, row[0]);
        }
        int[][] last = {{0, 999}, {1, 1000}, {2, 1000}, {50, 1000}};
        for (int[] row : last) {
            Show t = touched(950);
            t.due(999, "touch", 0, 49);
            t.due(row[1], "touch", 0, row[0]);
            t.due(row[1], "about", 0, 5);
        }
        touched(1000).tells(1000, "touch", 0, 0);
        touched(1000).tells(1000, "touch", 0, 50);

        Show.sentence("21: BAD: a FIGURE that is not there");
        Show.figureNumbers(BAD, 7, "touch", 7);

        Show.sentence("21: BAD also of one that has all it can have");
        Show.outside(() -> touched(1000), BAD, 1, 0, 50, "touch", 0, 5);
    }

    private static Show touched(int touches) {
        Show s = Show.of(1);
        for (int n = 50; n <= touches; n += 50) {
            s.due(n, "touch", 0, 50);
        }
        return s;
    }

    // ---- Promise 22

    /** Two figures; 1 with this SAG (of hours at a heat of 31, so that WAX is one less for each). */
    private static Show sagged(int sag, int touches) {
        Show s = Show.of(2);
        for (int done = 0; done < sag; done += 50) {
            s.due(Math.min(sag, done + 50), "heat", 1, 31, Math.min(50, sag - done));
        }
        for (int done = 0; done < touches; done += 50) {
            s.due(Math.min(touches, done + 50), "touch", 1, Math.min(50, touches - done));
        }
        return s;
    }

    private static void repairIsDue() {
        Show.sentence("22: NO: none is DUE");
        Show.of(2).refused(NO, "repair", 1);
        sagged(49, 0).refused(NO, "repair", 1);
        sagged(0, 19).refused(NO, "repair", 1);
        sagged(49, 19).refused(NO, "repair", 1);
        sagged(50, 20).refused(NO, "repair", 0);

        Show.sentence("22: DUE at SAG of 50, or more");
        sagged(50, 0).due(955, "repair", 1);
        sagged(51, 0).due(954, "repair", 1);
        sagged(50, 19).due(955, "repair", 1);

        Show.sentence("22: DUE at TOUCHES of 20, or more");
        sagged(0, 20).due(1000, "repair", 1);
        sagged(0, 21).due(1000, "repair", 1);
        sagged(49, 20).due(955, "repair", 1);
        touched(1000).due(1000, "repair", 0);

        Show.sentence("22: BAD: a FIGURE that is not there, ahead of NO");
        Show.figureNumbers(BAD, NO, "repair");
        sagged(50, 20).refused(BAD, "repair", 2);
        sagged(50, 20).refused(BAD, "repair", -1);
    }

    private static void repair() {
        Show.sentence("22: both are 0");
        Show s = sagged(50, 20);
        s.due(955, "repair", 1);
        s.due(0, "about", 1, 4);
        s.due(0, "about", 1, 5);
        s.refused(NO, "repair", 1);
        Show t = sagged(0, 20);
        t.due(1000, "repair", 1);
        t.due(19, "touch", 1, 19);
        t.refused(NO, "repair", 1);
        t.due(20, "touch", 1, 1);
        t.due(1000, "repair", 1);
        Show u = sagged(50, 0);
        u.due(955, "repair", 1);
        u.due(49, "heat", 1, 31, 49);
        u.refused(NO, "repair", 1);
        u.due(50, "heat", 1, 31, 1);
        u.due(910, "repair", 1);

        Show.sentence("22: WAX is so much more as SAG by 10, cut");
        for (int sag : new int[] {0, 1, 9, 10, 11, 19, 20, 49, 50, 59, 60, 61, 99, 100}) {
            Show v = sagged(sag, 20);
            v.due(1000 - sag + sag / 10, "repair", 1);
            v.due(1000 - sag + sag / 10, "about", 1, 3);
            v.due(1000, "about", 0, 3);
        }

        Show.sentence("22: WAX may be more than at first");
        Show more = Show.of(1);
        more.due(50, "heat", 0, 55, 2);
        more.due(1001, "repair", 0);
        more.due(50, "heat", 0, 55, 2);
        more.due(1002, "repair", 0);

        Show.sentence("22: WAX of 100 becomes more again");
        Show least = Show.of(1);
        for (int i = 1; i <= 7; i++) {
            least.due(1500 * i, "heat", 0, 60, 50);
        }
        least.due(100, "about", 0, 3);
        least.due(1150, "repair", 0);
        least.due(30, "heat", 0, 60, 1);
        least.due(1147, "about", 0, 3);

        Show.sentence("22: one that is refused is not a REPAIR that was");
        Show count = sagged(49, 19);
        count.refused(NO, "repair", 1);
        count.refused(BAD, "repair", 2);
        count.due(0, "count", 4);
        count.due(20, "touch", 1, 1);
        count.due(955, "repair", 1);
        count.due(1, "count", 4);
    }

    // ---- Promise 23

    private static void due() {
        Show.sentence("23: no FIGURES, none of which one is DUE");
        new Show().tells(0, "due");
        Show.of(8).tells(0, "due");

        Show.sentence("23: at SAG of 50 or TOUCHES of 20, or more");
        int[][] rows = {{49, 19, 0}, {50, 0, 2}, {0, 20, 2}, {51, 0, 2}, {0, 21, 2}, {50, 20, 2}, {49, 0, 0},
            {0, 19, 0}};
        for (int[] row : rows) {
            sagged(row[0], row[1]).tells(row[2], "due");
        }

        Show.sentence("23: as bits: FIGURE 0 is 1, FIGURE 7 is 128, all are 255");
        Show all = Show.of(8);
        for (int f = 0; f < 8; f++) {
            Show s = Show.of(8);
            s.due(20, "touch", f, 20);
            s.tells(1 << f, "due");
            all.due(50, "heat", f, 55, 2);
            all.due((2 << f) - 1, "due");
        }
        all.due(1001, "repair", 0);
        all.due(254, "due");
        all.due(1001, "repair", 7);
        all.due(126, "due");
    }

    // ---- Promise 24

    private static Show withMiddles(int[]... middles) {
        Show s = Show.of(middles.length);
        for (int f = 0; f < middles.length; f++) {
            for (int m = 0; m <= 3; m++) {
                s.due(1, "picture", f, m, middles[f][m], middles[f][m]);
            }
        }
        return s;
    }

    private static void tell() {
        Show.sentence("24: four numbers (0 .. 3000)");
        for (int k = 0; k <= 3; k++) {
            for (int v : new int[] {0, 3000}) {
                int[] row = {1500, 1500, 1500, 1500};
                row[k] = v;
                Show.of(1).tells(0, "tell", row);
            }
            Show.outside(() -> Show.of(1), BAD, k, 0, 3000, "tell", 1500, 1500, 1500, 1500);
            Show.outside(() -> Show.of(1), BAD, k, 0, 3000, "tell", 0, 3000, 0, 3000);
        }

        Show.sentence("24: NONE: no FIGURES");
        new Show().tells(NONE, "tell", 0, 0, 0, 0);
        new Show().tells(NONE, "tell", 3000, 3000, 3000, 3000);

        Show.sentence("24: BAD ahead of NONE");
        for (int k = 0; k <= 3; k++) {
            Show.outside(Show::new, BAD, k, 0, 3000, "tell", 1, 2, 3, 4);
        }

        Show.sentence("24: the middle of a SPAN of no pictures is 1500");
        Show s = Show.of(1);
        s.due(1, "figure", 0);
        for (int m = 0; m <= 3; m++) {
            s.due(1, "picture", 1, m, 1500, 1500);
        }
        for (int v = 0; v <= 3000; v += 750) {
            s.tells(0, "tell", v, v, v, v);
        }

        Show.sentence("24: from and to by 2, cut");
        // the middle of 3 .. 4 is 3, as that of 3 .. 3; that of 4 .. 4 is nearer to 4
        for (int m = 0; m <= 3; m++) {
            Show t = Show.of(2);
            t.due(1, "picture", 0, m, 4, 4);
            t.due(1, "picture", 1, m, 3, 4);
            int[] row = {1500, 1500, 1500, 1500};
            row[m] = 4;
            t.tells(0, "tell", row);
            row[m] = 3;
            t.tells(1, "tell", row);
        }
        for (int m = 0; m <= 3; m++) {
            Show t = Show.of(2);
            t.due(1, "picture", 0, m, 2999, 3000);
            t.due(1, "picture", 1, m, 3000, 3000);
            int[] row = {1500, 1500, 1500, 1500};
            row[m] = 3000;
            t.tells(1, "tell", row);
            row[m] = 2999;
            t.tells(0, "tell", row);
        }

        Show.sentence("24: the least sum of the squares, the greatest there can be");
        Show far = withMiddles(new int[] {0, 0, 0, 0}, new int[] {0, 0, 0, 1});
        far.tells(1, "tell", 3000, 3000, 3000, 3000);
        far.tells(0, "tell", 3000, 3000, 3000, 0);
        Show high = withMiddles(new int[] {3000, 3000, 3000, 3000}, new int[] {2999, 3000, 3000, 3000});
        high.tells(1, "tell", 0, 0, 0, 0);
        withMiddles(new int[] {3000, 3000, 3000, 3000}).tells(0, "tell", 0, 0, 0, 0);

        Show.sentence("24: of the squares, not of what they are of");
        Show squares = withMiddles(new int[] {105, 100, 100, 100}, new int[] {103, 103, 102, 100});
        squares.tells(1, "tell", 100, 100, 100, 100);
        Show five = withMiddles(new int[] {106, 100, 100, 100}, new int[] {104, 104, 102, 100});
        // 36 each
        five.tells(0, "tell", 100, 100, 100, 100);
    }

    private static void tellOfLikeOnes() {
        Show.sentence("24: of like ones the least FIGURE");
        Show.of(8).tells(0, "tell", 7, 7, 7, 7);
        Show s = withMiddles(new int[] {900, 9, 9, 9}, new int[] {10, 10, 10, 20}, new int[] {20, 10, 10, 10},
                new int[] {10, 10, 10, 20});
        s.tells(1, "tell", 10, 10, 10, 10);
        s.tells(1, "tell", 10, 10, 10, 20);
        s.tells(2, "tell", 20, 10, 10, 10);
        s.tells(1, "tell", 15, 10, 10, 15);
        s.tells(2, "tell", 16, 10, 10, 15);
        s.tells(0, "tell", 900, 9, 9, 9);

        Show.sentence("24: each number to its own MEASURE; the last FIGURE can be told, too");
        Show eight = Show.of(8);
        for (int m = 0; m <= 3; m++) {
            eight.due(1, "picture", 7 - m, m, 3000, 3000);
        }
        eight.tells(7, "tell", 3000, 1500, 1500, 1500);
        eight.tells(6, "tell", 1500, 3000, 1500, 1500);
        eight.tells(5, "tell", 1500, 1500, 3000, 1500);
        eight.tells(4, "tell", 1500, 1500, 1500, 3000);
    }

    private static void tellLeavesOut() {
        Show.sentence("24: FIGURES that do NOT AGREE in one are left out");
        for (int m = 0; m <= 3; m++) {
            Show s = Show.of(2);
            s.due(1, "picture", 0, m, 5, 5);
            s.due(2, "picture", 0, m, 5, 5);
            s.due(1, "picture", 1, m, 9, 9);
            int[] row = {1500, 1500, 1500, 1500};
            row[m] = 5;
            s.tells(0, "tell", row);
            s.due(3, "picture", 0, m, 6, 6);
            s.tells(1, "tell", row);
            s.due(2, "picture", 1, m, 8, 8);
            s.tells(NONE, "tell", row);
            row[m] = 3001;
            s.refused(BAD, "tell", row);
        }

        Show.sentence("24: NONE: all are left out");
        Show all = Show.of(8);
        for (int f = 0; f < 8; f++) {
            all.due(1, "picture", f, f % 4, 0, 1499);
            // the next one, without pictures, is nearer; the last one is the last that is left
            all.due(Math.min(7, f + 1), "tell", 1500, 1500, 1500, 1500);
            all.due(2, "picture", f, f % 4, 1500, 3000);
        }
        all.tells(NONE, "tell", 1500, 1500, 1500, 1500);
    }

    // ---- Promise 25

    private static Show withLikenesses(int n) {
        Show s = Show.of(2);
        for (int i = 1; i <= n; i++) {
            s.due(i, "likeness", i % 2, i, i, i, i);
        }
        return s;
    }

    private static void likeness() {
        Show.sentence("25: four numbers (0 .. 3000)");
        for (int k = 1; k <= 4; k++) {
            for (int v : new int[] {0, 3000}) {
                int[] row = {0, 1500, 1500, 1500, 1500};
                row[k] = v;
                Show.of(1).due(1, "likeness", row);
            }
            Show.outside(() -> Show.of(1), BAD, k, 0, 3000, "likeness", 0, 0, 3000, 0, 3000);
        }

        Show.sentence("25: BAD: a FIGURE that is not there");
        Show.figureNumbers(BAD, 1, "likeness", 1, 2, 3, 4);

        Show.sentence("25: how many there are of all, not of the FIGURE alone");
        withLikenesses(20).due(20, "count", 3);

        Show.sentence("25: FULL: 20: the 20th is the last one");
        withLikenesses(19).due(20, "likeness", 0, 0, 0, 0, 0);
        withLikenesses(20).refused(FULL, "likeness", 0, 0, 0, 0, 0);
        withLikenesses(20).refused(FULL, "likeness", 1, 3000, 3000, 3000, 3000);
        Show s = withLikenesses(20);
        s.refused(FULL, "likeness", 0, 1, 1, 1, 1);
        s.due(20, "count", 3);
        s.due(10, "known", 0);

        Show.sentence("25: BAD ahead of FULL");
        for (int k = 0; k <= 4; k++) {
            Show.outside(() -> withLikenesses(20), BAD, k, 0, k == 0 ? 1 : 3000, "likeness", 1, 2, 3, 4, 5);
        }

        Show.sentence("25: one that is refused is not kept");
        Show t = withLikenesses(3);
        t.refused(BAD, "likeness", 2, 1, 1, 1, 1);
        t.refused(BAD, "likeness", 0, 1, 1, 1, 3001);
        t.refused(BAD, "likeness", 0, -1, 1, 1, 1);
        t.due(4, "likeness", 0, 1, 1, 1, 1);
        t.due(2, "known", 0);
    }

    // ---- Promise 26

    private static void known() {
        Show.sentence("26: none of a FIGURE yet");
        Show.of(1).tells(0, "known", 0);
        Show.of(8).tells(0, "known", 7);

        Show.sentence("26: BAD: a FIGURE that is not there");
        Show.figureNumbers(BAD, 0, "known");

        Show.sentence("26: how many of a FIGURE are told as its: all 20");
        Show s = Show.of(1);
        for (int i = 1; i <= 20; i++) {
            s.due(i, "likeness", 0, 150 * i, 0, 3000, 1);
            s.due(i, "known", 0);
        }

        Show.sentence("26: told as its: those of another FIGURE that are told as its are not counted");
        Show t = withMiddles(new int[] {0, 0, 0, 0}, new int[] {9, 9, 9, 9});
        t.due(1, "likeness", 0, 9, 9, 9, 9);
        t.due(2, "likeness", 1, 0, 0, 0, 0);
        t.tells(0, "known", 0);
        t.tells(0, "known", 1);
        t.due(3, "likeness", 0, 4, 4, 4, 4);
        t.due(4, "likeness", 1, 5, 5, 5, 5);
        t.tells(1, "known", 0);
        t.tells(1, "known", 1);

        Show.sentence("26: each number to its own MEASURE, and each of the 20 by its own numbers");
        Show own = Show.of(5);
        for (int m = 0; m <= 3; m++) {
            own.due(1, "picture", m, m, 3000, 3000);
            own.due(2, "picture", m, m, 2990, 3000);
        }
        for (int i = 0; i < 20; i++) {
            int[] row = {i % 4, 1500, 1500, 1500, 1500};
            row[1 + i / 5] = 3000;
            own.due(i + 1, "likeness", row);
        }
        // of FIGURE 0: 0, 4, 8, 12, 16, of which 0 and 4 are told as its; of 1: 5 and 9; and so on
        for (int f = 0; f <= 3; f++) {
            own.tells(2, "known", f);
        }
        own.tells(0, "known", 4);

        Show.sentence("26: of like ones the least FIGURE is told");
        Show like = withMiddles(new int[] {0, 0, 0, 0}, new int[] {2, 0, 0, 0});
        like.due(1, "likeness", 1, 1, 0, 0, 0);
        like.due(2, "likeness", 0, 1, 0, 0, 0);
        like.tells(0, "known", 1);
        like.tells(1, "known", 0);

        Show.sentence("26: FIGURES that do NOT AGREE are left out, and none may be told");
        like.due(2, "picture", 0, 2, 1, 1);
        like.tells(1, "known", 1);
        like.tells(0, "known", 0);
        like.due(2, "picture", 1, 3, 1, 1);
        like.tells(0, "known", 1);
        like.tells(0, "known", 0);
    }

    // ---- Promise 27

    private static void about() {
        Show.sentence("27: 0 PRICE, 1 RIGHTS from, 2 to, 3 WAX, 4 SAG, 5 TOUCHES");
        Show s = Show.of(1);
        s.due(1, "figure", 200);
        s.due(1, "rights", 1, 3, 4);
        s.due(1500, "heat", 1, 60, 50);
        s.due(17, "touch", 1, 17);
        int[] row = {200, 3, 4, 850, 1500, 17};
        int[] other = {0, 0, 5, 1000, 0, 0};
        for (int what = 0; what <= 5; what++) {
            s.tells(row[what], "about", 1, what);
            s.tells(other[what], "about", 0, what);
        }

        Show.sentence("27: BAD: what");
        Show.outside(() -> Show.of(2), BAD, 1, 0, 5, "about", 1, 0);

        Show.sentence("27: BAD: a FIGURE that is not there");
        Show.figureNumbers(BAD, 0, "about", 0);
        Show.figureNumbers(BAD, 5, "about", 2);
        Show.figureNumbers(BAD, 1000, "about", 3);
    }

    // ---- Promise 28

    private static void count() {
        Show.sentence("28: 0 FIGURES, 1 PLACES, 2 VISITORS, 3 LIKENESSES, 4 REPAIRS that were");
        int[] first = {0, 3, 0, 0, 0};
        for (int what = 0; what <= 4; what++) {
            new Show().tells(first[what], "count", what);
        }
        Show s = withLikenesses(20);
        s.due(3, "places", 5);
        s.due(20, "come", 1, 20);
        s.due(40, "come", 2, 20);
        s.due(20, "touch", 0, 20);
        s.due(1000, "repair", 0);
        s.due(20, "touch", 1, 20);
        s.due(1000, "repair", 1);
        s.due(20, "touch", 1, 20);
        s.due(1000, "repair", 1);
        int[] full = {2, 5, 40, 20, 3};
        for (int what = 0; what <= 4; what++) {
            s.tells(full[what], "count", what);
        }
        Show.of(8).tells(8, "count", 0);

        Show.sentence("28: BAD");
        Show.outside(Show::new, BAD, 0, 0, 4, "count", 0);
        Show.outside(() -> withLikenesses(20), BAD, 0, 0, 4, "count", 0);
    }

    // ---- Promise 29

    /** What the document says, by the other calls and by what was told to the show. */
    private static long digestBy(Show s, int figures, int[] fames, int[] days, int[] rooms, int standing) {
        long h = 239;
        for (int what = 0; what <= 4; what++) {
            h = 31 * h + s.ask("count", what);
        }
        for (int f = 0; f < figures; f++) {
            for (int what = 0; what <= 5; what++) {
                h = 31 * h + s.ask("about", f, what);
            }
            for (int week = 0; week <= 5; week++) {
                h = 31 * h + fames[week];
            }
            for (int m = 0; m <= 3; m++) {
                h = 31 * h + s.ask("span", f, m, 0);
                h = 31 * h + s.ask("span", f, m, 1);
            }
            for (int hand = 0; hand <= 3; hand++) {
                h = 31 * h + days[hand];
            }
        }
        for (int v : rooms) {
            h = 31 * h + v;
        }
        return 31 * h + standing;
    }

    private static void digest() {
        int[] noFame = new int[6];
        int[] noDays = new int[4];
        int[] rooms = {10, 5, 10, 5, 10, 5};
        Show.sentence("29: of a new object: h = 239, and of no FIGURES nothing");
        Show s = new Show();
        s.tells(digestBy(s, 0, noFame, noDays, rooms, 0), "digest");

        Show.sentence("29: of one FIGURE");
        Show one = Show.of(1);
        one.tells(digestBy(one, 1, noFame, noDays, rooms, 0), "digest");

        Show.sentence("29: of each MEASURE span(.., 0), (.., 1): NONE of those that do NOT AGREE");
        Show wrong = Show.of(1);
        wrong.due(1, "picture", 0, 3, 0, 0);
        wrong.due(2, "picture", 0, 3, 3000, 3000);
        wrong.due(1, "picture", 0, 0, 17, 400);
        wrong.tells(digestBy(wrong, 1, noFame, noDays, rooms, 0), "digest");

        Show.sentence("29: each v has its own place: changed by one, it changes the digest");
        String[] calls = {"figure", "places", "come", "likeness", "rights", "rights", "heat", "touch", "fame",
            "fame", "picture", "picture", "days", "days", "room", "room", "room", "standing"};
        int[][] rows = {{0}, {4}, {0, 1}, {0, 1, 1, 1, 1}, {0, 1, 5}, {0, 0, 4}, {0, 20, 1}, {0, 1}, {0, 0, 1},
            {0, 5, 1}, {0, 0, 1, 3000}, {0, 3, 0, 2999}, {0, 0, 1}, {0, 3, 1}, {0, 11, 5}, {0, 10, 6},
            {2, 10, 6}, {1}};
        long[] digests = new long[calls.length + 1];
        digests[calls.length] = Show.of(1).ask("digest");
        for (int i = 0; i < calls.length; i++) {
            Show t = Show.of(1);
            t.ask(calls[i], rows[i]);
            digests[i] = t.ask("digest");
            for (int k = 0; k <= calls.length; k++) {
                if ((k < i || k == calls.length) && digests[i] == digests[k]) {
                    Show.complain("digest() is the same after " + calls[i] + " number " + i + " as of " + k);
                }
            }
        }
    }

    private static void digestOfAll() {
        Show.sentence("29: of eight FIGURES with all the numbers wide: h = 31 h + v wraps around");
        int[] fames = {-100, 100, -1, 0, 1, 99};
        int[] days = {50, 0, 1, 49};
        int[] rooms = {100, 30, 0, 1, 99, 29};
        Show s = new Show();
        for (int f = 0; f < 8; f++) {
            s.due(f, "figure", 200 - f);
            s.due(1, "rights", f, f / 2, 5);
            s.due(1500, "heat", f, 60, 50);
            s.due(50, "touch", f, 50);
            s.due(1, "picture", f, f % 4, 1000 + f, 3000);
            for (int week = 0; week <= 5; week++) {
                s.due(0, "fame", f, week, fames[week]);
            }
            for (int hand = 0; hand <= 3; hand++) {
                s.due(0, "days", f, hand, days[hand]);
            }
        }
        s.due(1000, "repair", 3);
        s.due(2, "picture", 6, 2, 0, 0);
        for (int room = 0; room <= 2; room++) {
            s.due(1, "room", room, rooms[2 * room], rooms[2 * room + 1]);
        }
        s.due(3, "places", 5);
        s.due(0, "standing", 255);
        s.due(20, "come", 600, 20);
        s.due(40, "come", 600, 20);
        for (int i = 1; i <= 20; i++) {
            s.due(i, "likeness", 7, 1, 2, 3, 4);
        }
        s.tells(digestBy(s, 8, fames, days, rooms, 255), "digest");
    }

    // ---- what stands ahead of the promises

    private static void calls() {
        Show.sentence("An object is used for at most 512 calls: the 512th is answered as the first one");
        Show s = Show.of(1);
        for (int i = 1; i <= 509; i++) {
            s.due(1500L * i, "heat", 0, 60, 50);
        }
        s.due(100 + 76350, "repair", 0);
        s.due(100 + 76350, "about", 0, 3);
        Show repairs = Show.of(1);
        for (int i = 1; i <= 255; i++) {
            repairs.due(20, "touch", 0, 20);
            repairs.due(1000, "repair", 0);
        }
        repairs.due(255, "count", 4);
        Show visitors = new Show();
        for (int i = 1; i <= 170; i++) {
            visitors.due(20, "come", 600, 20);
            visitors.due(620, "out", 19);
            visitors.due(20, "empty");
        }
        visitors.due(1, "come", 0, 1);
        visitors.due(15, "out", 0);
    }
}
