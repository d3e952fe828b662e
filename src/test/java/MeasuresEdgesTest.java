// Promises 9 to 14: each sentence that names an edge, by itself. Show.java tells how.
public final class MeasuresEdgesTest {
    private static final int NONE = Show.NONE, BAD = Show.BAD, FULL = Show.FULL;

    public static void main(String[] args) {
        picture();
        pictureFull();
        span();
        spanOfNothing();
        wrong();
        days();
        made();
        order();
        orderOfLikeOnes();
        Show.end();
    }

    private static Show withPictures(int n, int from, int to) {
        Show s = Show.of(2);
        for (int i = 1; i <= n; i++) {
            s.due(i, "picture", 1, 2, from, to);
        }
        return s;
    }

    /** One picture of 10 .. 20, then 11 more with which it does not agree. */
    private static Show fullOfWrong() {
        Show s = withPictures(1, 10, 20);
        for (int i = 2; i <= 12; i++) {
            s.due(i, "picture", 1, 2, 30, 40);
        }
        return s;
    }

    // ---- Promise 9

    private static void picture() {
        Show.sentence("9: MEASURES 0 .. 3");
        for (int m = 0; m <= 3; m++) {
            Show s = Show.of(2);
            s.due(1, "picture", 1, m, 7, 8);
            for (int other = 0; other <= 3; other++) {
                s.tells(other == m ? 7 : 0, "span", 1, other, 0);
                s.tells(other == m ? 8 : 3000, "span", 1, other, 1);
                s.tells(0, "span", 0, other, 0);
            }
        }
        Show.outside(() -> Show.of(2), BAD, 1, 0, 3, "picture", 1, 0, 7, 8);

        Show.sentence("9: spans from .. to (0 .. 3000)");
        int[][] taken = {{0, 3000}, {0, 0}, {3000, 3000}, {1, 2999}, {0, 1}, {2999, 3000}, {1500, 1500}};
        for (int[] span : taken) {
            Show s = Show.of(1);
            s.due(1, "picture", 0, 0, span[0], span[1]);
            s.tells(span[0], "span", 0, 0, 0);
            s.tells(span[1], "span", 0, 0, 1);
        }
        Show.outside(() -> Show.of(2), BAD, 2, 0, 3000, "picture", 1, 3, 0, 3000);
        Show.outside(() -> Show.of(2), BAD, 3, 0, 3000, "picture", 1, 3, 0, 3000);
        Show.of(1).refused(BAD, "picture", 0, 0, 3001, 3001);
        Show.of(1).refused(BAD, "picture", 0, 0, 3001, 3002);
        Show.of(1).refused(BAD, "picture", 0, 0, -1, -1);
        Show.of(1).refused(BAD, "picture", 0, 0, -2, -1);

        Show.sentence("9: BAD: a span that ends ahead of where it begins");
        Show.of(1).refused(BAD, "picture", 0, 0, 1, 0);
        Show.of(1).refused(BAD, "picture", 0, 0, 3000, 2999);
        Show.of(1).refused(BAD, "picture", 0, 0, 3000, 0);
        Show.of(1).refused(BAD, "picture", 0, 0, 1501, 1500);

        Show.sentence("9: BAD: a FIGURE that is not there");
        Show.figureNumbers(BAD, 1, "picture", 3, 5, 9);

        Show.sentence("9: how many there are of it (those that do NOT AGREE, too)");
        fullOfWrong();
        Show s = Show.of(2);
        s.due(1, "picture", 0, 0, 5, 5);
        s.due(2, "picture", 0, 0, 6, 6);
        s.due(3, "picture", 0, 0, 5, 6);
        s.due(1, "picture", 0, 1, 5, 5);
        s.due(1, "picture", 1, 0, 5, 5);
        s.due(4, "picture", 0, 0, 0, 3000);

        Show.sentence("9: one that is refused is not among them");
        Show t = withPictures(3, 10, 20);
        t.refused(BAD, "picture", 1, 2, 20, 10);
        t.refused(BAD, "picture", 1, 2, 0, 3001);
        t.due(4, "picture", 1, 2, 10, 20);
    }

    private static void pictureFull() {
        Show.sentence("9: FULL: 12: the 12th is the last one");
        withPictures(11, 10, 20).due(12, "picture", 1, 2, 10, 20);
        withPictures(12, 10, 20).refused(FULL, "picture", 1, 2, 10, 20);
        withPictures(12, 10, 20).refused(FULL, "picture", 1, 2, 0, 3000);

        Show.sentence("9: FULL changes nothing: neither SPAN nor whether it AGREES");
        withPictures(12, 10, 20).refused(FULL, "picture", 1, 2, 15, 15);
        withPictures(12, 10, 20).refused(FULL, "picture", 1, 2, 30, 40);
        Show s = withPictures(12, 10, 20);
        s.refused(FULL, "picture", 1, 2, 30, 40);
        s.tells(10, "span", 1, 2, 0);
        s.tells(20, "span", 1, 2, 1);
        s.tells(NONE, "wrong", 1, 2);

        Show.sentence("9: FULL: those that do NOT AGREE fill it, too");
        fullOfWrong().refused(FULL, "picture", 1, 2, 10, 20);

        Show.sentence("9: FULL of one MEASURE of one FIGURE, not of another one");
        for (int m = 0; m <= 3; m++) {
            for (int f = 0; f <= 1; f++) {
                boolean full = m == 2 && f == 1;
                if (!full) {
                    withPictures(12, 10, 20).due(1, "picture", f, m, 10, 20);
                }
            }
        }

        Show.sentence("9: BAD ahead of FULL");
        withPictures(12, 10, 20).refused(BAD, "picture", 1, 2, 20, 19);
        Show.outside(() -> withPictures(12, 10, 20), BAD, 2, 0, 3000, "picture", 1, 2, 0, 3000);
        Show.outside(() -> withPictures(12, 10, 20), BAD, 3, 0, 3000, "picture", 1, 2, 0, 3000);
    }

    // ---- Promise 10

    private static void span() {
        Show.sentence("10: 0 to 3000 without any");
        Show first = Show.of(8);
        for (int f = 0; f < 8; f++) {
            for (int m = 0; m <= 3; m++) {
                first.due(0, "span", f, m, 0);
                first.due(3000, "span", f, m, 1);
            }
        }

        Show.sentence("10: from (0), to (1)");
        withPictures(1, 10, 20).tells(10, "span", 1, 2, 0);
        withPictures(1, 10, 20).tells(20, "span", 1, 2, 1);
        Show.outside(() -> withPictures(1, 10, 20), BAD, 2, 0, 1, "span", 1, 2, 0);

        Show.sentence("10: BAD: MEASURES 0 .. 3");
        Show.outside(() -> Show.of(2), BAD, 1, 0, 3, "span", 1, 0, 0);

        Show.sentence("10: BAD: a FIGURE that is not there");
        Show.figureNumbers(BAD, 3000, "span", 3, 1);

        Show.sentence("10: BAD ahead of NONE");
        Show.outside(MeasuresEdgesTest::fullOfWrong, BAD, 2, 0, 1, "span", 1, 2, 0);

        Show.sentence("10: what all spans of one have in common: one number still");
        Show s = withPictures(1, 10, 20);
        s.due(2, "picture", 1, 2, 20, 30);
        s.tells(20, "span", 1, 2, 0);
        s.tells(20, "span", 1, 2, 1);
        Show t = withPictures(1, 10, 20);
        t.due(2, "picture", 1, 2, 0, 10);
        t.tells(10, "span", 1, 2, 0);
        t.tells(10, "span", 1, 2, 1);

        Show.sentence("10: what all spans have in common, one inside another one");
        Show u = withPictures(1, 10, 20);
        u.due(2, "picture", 1, 2, 12, 14);
        u.due(3, "picture", 1, 2, 0, 3000);
        u.due(4, "picture", 1, 2, 11, 13);
        u.tells(12, "span", 1, 2, 0);
        u.tells(13, "span", 1, 2, 1);
    }

    private static void spanOfNothing() {
        Show.sentence("10: NONE: it does NOT AGREE: one number beside is enough");
        for (int[] beside : new int[][] {{21, 30}, {0, 9}, {21, 21}, {9, 9}}) {
            Show s = withPictures(1, 10, 20);
            s.due(2, "picture", 1, 2, beside[0], beside[1]);
            s.tells(NONE, "span", 1, 2, 0);
            s.tells(NONE, "span", 1, 2, 1);
            for (int m = 0; m <= 3; m++) {
                s.due(0, "span", 0, m, 0);
                s.due(m == 2 ? NONE : 3000, "span", 1, m, 1);
            }
        }
        Show ends = Show.of(1);
        ends.due(1, "picture", 0, 0, 0, 0);
        ends.due(2, "picture", 0, 0, 3000, 3000);
        ends.tells(NONE, "span", 0, 0, 0);

        Show.sentence("10: NONE: no later picture makes it AGREE again");
        Show s = fullOfWrong();
        s.tells(NONE, "span", 1, 2, 0);
        Show t = withPictures(1, 10, 20);
        t.due(2, "picture", 1, 2, 21, 30);
        for (int i = 3; i <= 12; i++) {
            t.due(i, "picture", 1, 2, 0, 3000);
            t.due(NONE, "span", 1, 2, 0);
            t.due(NONE, "span", 1, 2, 1);
        }
    }

    // ---- Promise 11

    private static void wrong() {
        Show.sentence("11: NONE: no pictures, one alone, twelve that agree");
        for (int m = 0; m <= 3; m++) {
            Show.of(1).tells(NONE, "wrong", 0, m);
        }
        withPictures(1, 0, 0).tells(NONE, "wrong", 1, 2);
        withPictures(12, 3000, 3000).tells(NONE, "wrong", 1, 2);

        Show.sentence("11: the first PICTURE (from 0 on) with which a MEASURE did not AGREE");
        for (int agree = 1; agree <= 11; agree++) {
            Show s = withPictures(agree, 10, 20);
            s.due(NONE, "wrong", 1, 2);
            s.due(agree + 1, "picture", 1, 2, 21, 21);
            s.tells(agree, "wrong", 1, 2);
            for (int i = agree + 2; i <= 12; i++) {
                s.due(i, "picture", 1, 2, i % 2 == 0 ? 10 : 0, 20);
                s.due(agree, "wrong", 1, 2);
            }
        }

        Show.sentence("11: with all ahead of it in common, though it agrees with each one");
        Show s = Show.of(1);
        s.due(1, "picture", 0, 0, 0, 10);
        s.due(2, "picture", 0, 0, 10, 20);
        s.due(NONE, "wrong", 0, 0);
        s.due(3, "picture", 0, 0, 0, 9);
        s.tells(2, "wrong", 0, 0);

        Show.sentence("11: one that is refused is not told");
        Show t = withPictures(12, 10, 20);
        t.refused(FULL, "picture", 1, 2, 30, 30);
        t.tells(NONE, "wrong", 1, 2);
        Show u = withPictures(2, 10, 20);
        u.refused(BAD, "picture", 1, 2, 31, 30);
        u.due(3, "picture", 1, 2, 30, 31);
        u.tells(2, "wrong", 1, 2);

        Show.sentence("11: BAD: MEASURES 0 .. 3");
        Show.outside(() -> Show.of(2), BAD, 1, 0, 3, "wrong", 1, 0);
        Show.outside(MeasuresEdgesTest::fullOfWrong, BAD, 1, 0, 3, "wrong", 1, 0);
        Show.sentence("11: BAD: a FIGURE that is not there");
        Show.figureNumbers(BAD, NONE, "wrong", 3);
    }

    // ---- Promise 12

    private static void days() {
        Show.sentence("12: HANDS 0 .. 3");
        for (int hand = 0; hand <= 3; hand++) {
            Show s = Show.of(2);
            s.due(0, "days", 1, hand, 9);
            for (int other = 0; other <= 3; other++) {
                s.due(other == hand ? 9 : 0, "days", 1, other, 0);
                s.due(0, "days", 0, other, 0);
            }
        }
        Show.outside(() -> Show.of(2), BAD, 1, 0, 3, "days", 1, 0, 5);

        Show.sentence("12: so many days (0 .. 50 each; 0 at first): what they were");
        Show s = Show.of(8);
        for (int f = 0; f < 8; f++) {
            for (int hand = 0; hand <= 3; hand++) {
                s.due(0, "days", f, hand, 50);
                s.due(50, "days", f, hand, 49);
                s.due(49, "days", f, hand, 1);
                s.due(1, "days", f, hand, 0);
            }
        }
        Show.outside(() -> Show.of(2), BAD, 2, 0, 50, "days", 1, 3, 5);

        Show.sentence("12: BAD: a FIGURE that is not there");
        Show.figureNumbers(BAD, 0, "days", 3, 50);

        Show.sentence("12: BAD changes nothing: what they were stays");
        Show t = Show.of(1);
        t.due(0, "days", 0, 0, 33);
        t.due(33, "made", 1);
        t.refused(BAD, "days", 0, 0, 51);
        t.refused(BAD, "days", 0, 0, -1);
        t.refused(BAD, "days", 0, 4, 1);
        t.refused(BAD, "days", 1, 0, 1);
        t.due(33, "made", 1);
        t.due(33, "days", 0, 0, 0);
        t.due(0, "made", 1);
    }

    // ---- Promise 13

    private static Show withDays(int[]... days) {
        Show s = Show.of(days.length);
        for (int f = 0; f < days.length; f++) {
            for (int hand = 0; hand <= 3; hand++) {
                s.due(0, "days", f, hand, days[f][hand]);
            }
        }
        return s;
    }

    private static Show allOfFifty() {
        int[][] days = new int[8][];
        for (int f = 0; f < 8; f++) {
            days[f] = new int[] {50, 50, 50, 50};
        }
        return withDays(days);
    }

    private static void made() {
        Show.sentence("13: 0 of none");
        for (int figures = 0; figures <= 8; figures++) {
            Show.of(figures).tells(0, "made", 0);
        }
        allOfFifty().tells(0, "made", 0);
        withDays(new int[] {1, 2, 3, 4}).tells(0, "made", 0);
        Show after = withDays(new int[] {1, 2, 3, 4});
        after.due(10, "made", 1);
        after.due(0, "made", 0);
        after.due(10, "made", 1);
        after.due(1, "days", 0, 0, 1);
        after.due(0, "made", 0);
        after.due(NONE, "order", 0, 0);
        after.due(10, "made", 1);

        Show.sentence("13: without days it is over on day 0");
        Show.of(8).tells(0, "made", 255);

        Show.sentence("13: BAD: a SET that is not there");
        Show.setNumbers("made");

        Show.sentence("13: one FIGURE: all its days");
        withDays(new int[] {1, 2, 3, 4}).tells(10, "made", 1);
        for (int f = 0; f < 8; f++) {
            allOfFifty().tells(200, "made", 1 << f);
        }

        Show.sentence("13: the most days there can be: eight FIGURES of 50 on each HAND");
        allOfFifty().tells(550, "made", 255);

        Show.sentence("13: a HAND begins when it is done with the one ahead");
        for (int hand = 0; hand <= 3; hand++) {
            Show s = Show.of(8);
            for (int f = 0; f < 8; f++) {
                s.due(0, "days", f, hand, 50);
            }
            s.tells(400, "made", 255);
            s.tells(350, "made", 254);
        }

        Show.sentence("13: and the HAND ahead is done with it");
        // each hand works on one alone: they all go on at once, but for the one that begins late
        withDays(new int[] {5, 0, 0, 0}, new int[] {0, 0, 0, 7}).tells(7, "made", 3);
        withDays(new int[] {5, 0, 0, 2}, new int[] {5, 0, 0, 2}).tells(12, "made", 3);
        withDays(new int[] {1, 9, 0, 0}, new int[] {1, 9, 0, 0}).tells(19, "made", 3);
        withDays(new int[] {1, 1, 9, 1}, new int[] {1, 1, 9, 1}).tells(21, "made", 3);

        Show.sentence("13: days as they are now");
        Show s = withDays(new int[] {1, 2, 3, 4}, new int[] {1, 2, 3, 4});
        s.due(14, "made", 3);
        s.due(4, "days", 1, 3, 0);
        s.due(10, "made", 3);
        s.due(10, "made", 1);
        s.due(6, "made", 2);
        s.due(10, "made", 3);
        s.due(2, "figure", 0);
        s.due(10, "made", 7);
    }

    // ---- Promise 14

    private static void order() {
        Show.sentence("14: the i-th FIGURE in THE ORDER: each one once, from 0 on");
        Show all = Show.of(8);
        for (int i = 0; i < 8; i++) {
            all.tells(i, "order", 255, i);
            all.tells(i, "order", 1 << i, 0);
        }
        int[] some = {0, 2, 5, 7};
        for (int i = 0; i < 4; i++) {
            all.tells(some[i], "order", 1 + 4 + 32 + 128, i);
        }

        Show.sentence("14: NONE: not so many");
        for (int figures = 0; figures <= 8; figures++) {
            Show s = Show.of(figures);
            int set = (1 << figures) - 1;
            for (int i : new int[] {figures, figures + 1, Show.HIGH}) {
                s.tells(NONE, "order", set, i);
                s.tells(NONE, "order", 0, i);
            }
            s.tells(NONE, "order", 0, 0);
        }
        all.tells(NONE, "order", 128, 1);
        all.tells(NONE, "order", 1 + 128, 2);

        Show.sentence("14: NONE below 0, for BAD is told of the SET alone");
        all.tells(NONE, "order", 255, -1);
        all.tells(NONE, "order", 0, -1);
        all.tells(NONE, "order", 255, Show.LOW);

        Show.sentence("14: BAD: the SET");
        Show.setNumbers("order", 0);

        Show.sentence("14: BAD ahead of NONE");
        Show.of(3).refused(BAD, "order", 8, 3);
        Show.of(3).refused(BAD, "order", 8, -1);
        Show.of(3).refused(BAD, "order", -1, Show.HIGH);
        Show.of(0).refused(BAD, "order", 1, 0);
        Show.of(8).refused(BAD, "order", 256, 8);

        Show.sentence("14: after a SET that is BAD the one ahead is told as it was");
        Show s = withDays(new int[] {9, 0, 0, 1}, new int[] {1, 0, 0, 9});
        s.due(1, "order", 3, 0);
        s.refused(BAD, "order", 4, 0);
        s.refused(BAD, "made", 4);
        s.due(1, "order", 3, 0);
        s.due(0, "order", 3, 1);
        s.due(0, "order", 1, 0);
        s.due(NONE, "order", 1, 1);
        s.due(0, "order", 3, 1);
    }

    private static void orderOfLikeOnes() {
        Show.sentence("14: of like ones the first by numbers of FIGURES");
        for (int v : new int[] {0, 1, 50}) {
            int[][] days = new int[5][];
            for (int f = 0; f < 5; f++) {
                days[f] = new int[] {v, v, v, v};
            }
            Show s = withDays(days);
            for (int i = 0; i < 5; i++) {
                s.tells(i, "order", 31, i);
            }
        }

        Show.sentence("14: of like ones the first by numbers, whichever HAND has the days");
        for (int hand = 0; hand <= 3; hand++) {
            Show s = Show.of(4);
            for (int f = 0; f < 4; f++) {
                s.due(0, "days", f, hand, 5 + f);
            }
            for (int i = 0; i < 4; i++) {
                s.tells(i, "order", 15, i);
            }
        }

        Show.sentence("14: the last one is done first, be it by one day");
        // 0 ahead: 3, 3 + 2; 3 + 1, 5 + 1 = 6. 1 ahead: 1, 2; 4, 4 + 2 = 6: like ones
        Show like = withDays(new int[] {3, 0, 0, 2}, new int[] {1, 0, 0, 1});
        like.due(6, "made", 3);
        like.due(0, "order", 3, 0);
        like.due(1, "order", 3, 1);
        // 0 ahead: 5, then 7. 1 ahead: 1 + 2, then 6: sooner by one
        Show sooner = withDays(new int[] {3, 0, 0, 2}, new int[] {1, 0, 0, 2});
        sooner.due(6, "made", 3);
        sooner.due(1, "order", 3, 0);
        sooner.due(0, "order", 3, 1);

        Show.sentence("14: of like ones the first FIGURE decides ahead of the next one");
        // only 2 can't be the last one: 0 2 1 and 1 2 0 and 2 .. are over on the same day
        Show s = withDays(new int[] {4, 0, 0, 0}, new int[] {4, 0, 0, 0}, new int[] {4, 0, 0, 2});
        s.due(12, "made", 7);
        s.due(0, "order", 7, 0);
        s.due(2, "order", 7, 1);
        s.due(1, "order", 7, 2);
    }
}
