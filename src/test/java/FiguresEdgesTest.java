// Promises 1 to 8: each sentence that names an edge, by itself. Show.java tells how.
public final class FiguresEdgesTest {
    private static final int BAD = Show.BAD, FULL = Show.FULL;
    private static final int BAD_FAME = Show.BAD_FAME, BAD_PLAN = Show.BAD_PLAN;

    public static void main(String[] args) {
        newObject();
        figure();
        fame();
        rights();
        places();
        standing();
        planNumbers();
        planPlacesAndRights();
        planWorth();
        planOfLikeOnes();
        planExtremes();
        shown();
        Show.end();
    }

    // ---- Promise 1

    private static void newObject() {
        Show.sentence("1: no FIGURES");
        new Show().due(0, "count", 0);
        new Show().refused(BAD, "about", 0, 0);
        Show.sentence("1: no VISITORS");
        new Show().due(0, "count", 2);
        new Show().refused(BAD, "out", 0);
        Show.sentence("1: as told: PLACES 3 at first");
        new Show().due(3, "count", 1);
        new Show().due(3, "places", 3);
        Show.sentence("1: as told: STANDING, a SET, none at first");
        new Show().due(0, "standing", 0);
        Show.of(8).due(0, "standing", 255);
        Show.sentence("1: no LIKENESSES and no REPAIRS yet");
        new Show().due(0, "count", 3);
        new Show().due(0, "count", 4);
        Show.sentence("1: one object knows nothing of another one");
        Show.of(8);
        new Show().due(0, "count", 0);
    }

    // ---- Promise 2

    private static void figure() {
        Show.sentence("2: a PRICE to make one (0 .. 200)");
        Show s = new Show();
        s.due(0, "figure", 0);
        s.due(1, "figure", 200);
        s.due(2, "figure", 1);
        s.due(3, "figure", 199);
        int[] prices = {0, 200, 1, 199};
        for (int f = 0; f < prices.length; f++) {
            s.due(prices[f], "about", f, 0);
        }
        Show.outside(Show::new, BAD, 0, 0, 200, "figure", 0);
        Show.outside(() -> Show.of(7), BAD, 0, 0, 200, "figure", 0);

        Show.sentence("2: FIGURES 0 .. 7, as they come: its number");
        Show t = new Show();
        for (int f = 0; f < 8; f++) {
            t.due(f, "figure", 10 * f);
            t.due(f + 1, "count", 0);
            t.due(10L * f, "about", f, 0);
        }

        Show.sentence("2: FULL: 8");
        Show.of(7).due(7, "figure", 200);
        Show.of(8).refused(FULL, "figure", 0);
        Show.of(8).refused(FULL, "figure", 200);
        Show u = Show.of(8);
        u.refused(FULL, "figure", 3);
        u.due(8, "count", 0);
        u.due(0, "about", 7, 0);

        Show.sentence("2: BAD ahead of FULL");
        Show.outside(() -> Show.of(8), BAD, 0, 0, 200, "figure", 0);
    }

    // ---- Promise 3

    private static void fame() {
        Show.sentence("3: FAME of WEEKS 0 .. 5");
        for (int week = 0; week <= 5; week++) {
            Show s = Show.of(2);
            s.due(0, "fame", 1, week, 9);
            for (int other = 0; other <= 5; other++) {
                s.due(other == week ? 9 : 0, "fame", 1, other, 9);
                s.due(0, "fame", 0, other, 0);
            }
        }
        Show.outside(() -> Show.of(2), BAD_FAME, 1, 0, 5, "fame", 1, 0, 7);

        Show.sentence("3: -100 .. 100 each");
        Show s = Show.of(2);
        s.due(0, "fame", 0, 0, 100);
        s.due(100, "fame", 0, 0, -100);
        s.due(-100, "fame", 0, 0, 99);
        s.due(99, "fame", 0, 0, -99);
        s.due(-99, "fame", 0, 0, 0);
        Show.outside(() -> Show.of(2), BAD_FAME, 2, -100, 100, "fame", 1, 5, 7);

        Show.sentence("3: 0 at first");
        Show t = Show.of(8);
        for (int f = 0; f < 8; f++) {
            for (int week = 0; week <= 5; week++) {
                t.due(0, "fame", f, week, 100);
            }
        }

        Show.sentence("3: BAD: -1000, a FIGURE that is not there");
        Show.figureNumbers(BAD_FAME, 0, "fame", 5, 100);

        Show.sentence("3: BAD changes nothing: what it was stays");
        Show u = Show.of(1);
        u.due(0, "fame", 0, 0, 55);
        u.refused(BAD_FAME, "fame", 0, 0, 101);
        u.refused(BAD_FAME, "fame", 0, 0, -101);
        u.refused(BAD_FAME, "fame", 0, 6, 0);
        u.refused(BAD_FAME, "fame", 1, 0, 0);
        u.due(55, "fame", 0, 0, 0);
    }

    // ---- Promise 4

    private static void rights() {
        Show.sentence("4: RIGHTS (0 to 5 at first)");
        Show first = Show.of(8);
        for (int f = 0; f < 8; f++) {
            first.due(0, "about", f, 1);
            first.due(5, "about", f, 2);
        }

        Show.sentence("4: from one WEEK to another one: each two of 0 .. 5, also the same one");
        for (int from = 0; from <= 5; from++) {
            for (int to = from; to <= 5; to++) {
                Show s = Show.of(2);
                s.due(1, "rights", 1, from, to);
                s.due(from, "about", 1, 1);
                s.due(to, "about", 1, 2);
                s.due(0, "about", 0, 1);
                s.due(5, "about", 0, 2);
            }
        }
        Show.outside(() -> Show.of(2), BAD, 1, 0, 5, "rights", 1, 0, 5);
        Show.outside(() -> Show.of(2), BAD, 2, 0, 5, "rights", 1, 0, 5);
        Show.of(1).refused(BAD, "rights", 0, 6, 6);
        Show.of(1).refused(BAD, "rights", 0, -1, -1);
        Show.of(1).refused(BAD, "rights", 0, 6, 7);
        Show.of(1).refused(BAD, "rights", 0, -2, -1);

        Show.sentence("4: BAD: also from above to");
        for (int to = 0; to <= 4; to++) {
            for (int from = to + 1; from <= 5; from++) {
                Show.of(1).refused(BAD, "rights", 0, from, to);
            }
        }

        Show.sentence("4: BAD: a FIGURE that is not there");
        Show.figureNumbers(BAD, 1, "rights", 2, 3);

        Show.sentence("4: BAD changes nothing: the RIGHTS that were stay");
        Show s = Show.of(1);
        s.due(1, "rights", 0, 1, 4);
        s.refused(BAD, "rights", 0, 4, 3);
        s.refused(BAD, "rights", 0, 0, 6);
        s.refused(BAD, "rights", 0, -1, 2);
        s.due(1, "about", 0, 1);
        s.due(4, "about", 0, 2);
    }

    // ---- Promise 5

    private static void places() {
        Show.sentence("5: PLACES (1 .. 5)");
        Show s = new Show();
        s.due(3, "places", 1);
        s.due(1, "count", 1);
        s.due(1, "places", 5);
        s.due(5, "count", 1);
        s.due(5, "places", 2);
        s.due(2, "places", 4);
        s.due(4, "places", 4);
        s.due(4, "places", 3);
        Show.outside(Show::new, BAD, 0, 1, 5, "places", 1);
        Show.outside(() -> Show.of(8), BAD, 0, 1, 5, "places", 1);

        Show.sentence("5: BAD changes nothing: what they were stays");
        Show t = new Show();
        t.due(3, "places", 4);
        t.refused(BAD, "places", 0);
        t.refused(BAD, "places", 6);
        t.due(4, "places", 1);
    }

    // ---- Promise 6

    private static void standing() {
        Show.sentence("6: STANDING (bits): what it was");
        Show s = Show.of(8);
        s.due(0, "standing", 255);
        s.due(255, "standing", 128);
        s.due(128, "standing", 1);
        s.due(1, "standing", 0);
        s.due(0, "standing", 0);

        Show.sentence("6: BAD: also one that is not there");
        Show.setNumbers("standing");
        for (int f = 0; f < 8; f++) {
            Show.of(f).refused(BAD, "standing", 1 << f);
            Show.of(f).refused(BAD, "standing", 1 << f | 1);
            Show.of(f + 1).due(0, "standing", 1 << f);
        }

        Show.sentence("6: BAD changes nothing: what it was stays");
        Show t = Show.of(2);
        t.due(0, "standing", 3);
        t.refused(BAD, "standing", 4);
        t.refused(BAD, "standing", 7);
        t.refused(BAD, "standing", -1);
        t.due(3, "standing", 3);

        Show.sentence("6: more may stand than there are PLACES, and without RIGHTS");
        Show u = Show.of(8);
        u.due(3, "places", 1);
        u.due(1, "rights", 7, 5, 5);
        u.due(0, "standing", 255);
        u.due(0, "plan", 6);
    }

    // ---- Promise 7

    private static void planNumbers() {
        Show.sentence("7: w WEEKS (1 .. 6)");
        Show s = Show.of(1);
        for (int week = 0; week <= 5; week++) {
            s.due(0, "fame", 0, week, 1 << week);
        }
        for (int w = 1; w <= 6; w++) {
            s.tells((1 << w) - 1, "plan", w);
        }

        Show.sentence("7: BAD: -100000");
        Show.outside(Show::new, BAD_PLAN, 0, 1, 6, "plan", 1);
        Show.outside(() -> Show.of(8), BAD_PLAN, 0, 1, 6, "plan", 1);

        Show.sentence("7: no FIGURES: nothing is shown");
        for (int w = 1; w <= 6; w++) {
            new Show().tells(0, "plan", w);
            for (int week = 0; week < w; week++) {
                new Show().tells(0, "shown", w, week);
            }
        }
    }

    private static void planPlacesAndRights() {
        Show.sentence("7: a SET of FIGURES, no more than PLACES");
        for (int figures = 0; figures <= 8; figures++) {
            for (int places = 1; places <= 5; places++) {
                Show s = Show.of(figures);
                s.due(3, "places", places);
                for (int f = 0; f < figures; f++) {
                    s.due(0, "fame", f, 0, 1);
                }
                int most = Math.min(figures, places);
                s.due(most, "plan", 1);
                s.due((1 << most) - 1, "shown", 1, 0);
            }
        }

        Show.sentence("7: each with RIGHTS then: from the first WEEK of them to the last one");
        for (int from = 0; from <= 5; from++) {
            for (int to = from; to <= 5; to++) {
                Show s = Show.of(2);
                for (int week = 0; week <= 5; week++) {
                    s.due(0, "fame", 1, week, 1);
                }
                s.due(1, "rights", 1, from, to);
                s.due(to - from + 1, "plan", 6);
                for (int week = 0; week <= 5; week++) {
                    s.due(from <= week && week <= to ? 2 : 0, "shown", 6, week);
                }
            }
        }

        Show.sentence("7: each with RIGHTS then: STANDING gives none");
        Show s = Show.of(1);
        s.due(0, "standing", 1);
        s.due(0, "fame", 0, 0, 50);
        s.due(1, "rights", 0, 1, 5);
        s.due(0, "plan", 1);
        s.due(0, "shown", 1, 0);
    }

    /** A show of one figure of this price, with fames from week 0 on. */
    private static Show ofPrice(int price, int... fames) {
        Show s = new Show();
        s.due(0, "figure", price);
        for (int week = 0; week < fames.length; week++) {
            s.due(0, "fame", 0, week, fames[week]);
        }
        return s;
    }

    private static void planWorth() {
        Show.sentence("7: less the PRICE: shown when it is worth more than nothing, by one");
        Show less = ofPrice(10, 9);
        less.due(0, "plan", 1);
        less.due(0, "shown", 1, 0);
        Show like = ofPrice(10, 10);
        like.due(0, "plan", 1);
        like.due(0, "shown", 1, 0);
        Show more = ofPrice(10, 11);
        more.due(1, "plan", 1);
        more.due(1, "shown", 1, 0);

        Show.sentence("7: in each WEEK in which it is shown and was not in the WEEK ahead");
        int[] middles = {-9, -10, -11};
        for (int middle : middles) {
            // to go on costs the middle week's fame, to make it anew costs 10
            Show s = ofPrice(10, 20, middle, 20);
            boolean goesOn = middle > -10;
            s.due(goesOn ? 21 : 20, "plan", 3);
            s.due(1, "shown", 3, 0);
            s.due(goesOn ? 1 : 0, "shown", 3, 1);
            s.due(1, "shown", 3, 2);
        }

        Show.sentence("7: the PRICE is paid once for WEEKS on end");
        ofPrice(200, 100, 100, 100, 100, 100, 100).due(400, "plan", 6);
        ofPrice(200, 100, 100, 100).due(100, "plan", 3);
        ofPrice(200, 100, 100).due(0, "plan", 2);

        Show.sentence("7: in WEEK 0: was not STANDING");
        Show stands = ofPrice(200, 1);
        stands.due(0, "plan", 1);
        stands.due(0, "standing", 1);
        stands.due(1, "plan", 1);
        stands.due(1, "shown", 1, 0);
        // STANDING is of no use in WEEK 1 if it is not shown in WEEK 0
        for (int first : new int[] {-9, -10, -11}) {
            Show s = ofPrice(10, first, 15);
            s.due(0, "standing", 1);
            s.due(first > -10 ? 6 : 5, "plan", 2);
            s.due(first > -10 ? 1 : 0, "shown", 2, 0);
            s.due(1, "shown", 2, 1);
        }

        Show.sentence("7: another one STANDING spares nothing");
        Show other = ofPrice(10, 15);
        other.due(1, "figure", 10);
        other.due(0, "standing", 2);
        other.due(5, "plan", 1);
        other.due(1, "shown", 1, 0);
    }

    private static void planOfLikeOnes() {
        Show.sentence("7: of like ones the first by its SETS as numbers");
        Show none = Show.of(8);
        none.due(0, "plan", 6);
        for (int week = 0; week <= 5; week++) {
            none.due(0, "shown", 6, week);
        }
        Show one = Show.of(8);
        one.due(3, "places", 1);
        for (int f = 3; f < 8; f++) {
            one.due(0, "fame", f, 5, 100);
        }
        one.due(100, "plan", 6);
        one.due(0, "shown", 6, 4);
        one.due(8, "shown", 6, 5);
        Show two = Show.of(3);
        two.due(3, "places", 2);
        two.due(0, "fame", 0, 0, 1);
        two.due(0, "fame", 1, 0, 1);
        two.due(0, "fame", 2, 0, 2);
        two.due(3, "plan", 1);
        two.due(5, "shown", 1, 0);

        Show.sentence("7: of like ones the first by WEEK 0's SET first");
        // made in WEEK 0 or in WEEK 1 it is worth as much
        Show late = ofPrice(10, 0, 20);
        late.due(10, "plan", 2);
        late.due(0, "shown", 2, 0);
        late.due(1, "shown", 2, 1);
        // 1 then 4, and 2 then 2, are worth 20 each; all others less
        Show s = Show.of(1);
        s.due(1, "figure", 6);
        s.due(2, "figure", 0);
        s.due(3, "places", 1);
        s.due(0, "fame", 0, 0, 10);
        s.due(0, "fame", 1, 0, 11);
        s.due(0, "fame", 1, 1, 15);
        s.due(0, "fame", 2, 1, 10);
        s.due(20, "plan", 2);
        s.due(1, "shown", 2, 0);
        s.due(4, "shown", 2, 1);
        // now 2 then 2 alone
        s.due(10, "fame", 2, 1, 9);
        s.due(20, "plan", 2);
        s.due(2, "shown", 2, 0);
        s.due(2, "shown", 2, 1);
    }

    private static void planExtremes() {
        Show.sentence("7: the greatest WORTH there can be");
        Show s = Show.of(8);
        s.due(3, "places", 5);
        for (int f = 0; f < 8; f++) {
            for (int week = 0; week <= 5; week++) {
                s.due(0, "fame", f, week, 100);
            }
        }
        s.due(3000, "plan", 6);
        s.due(31, "shown", 6, 0);
        s.due(31, "shown", 6, 5);

        Show.sentence("7: the least WORTH: never below that of nothing shown");
        for (int standing : new int[] {0, 255}) {
            Show low = new Show();
            for (int f = 0; f < 8; f++) {
                low.due(f, "figure", 200);
                for (int week = 0; week <= 5; week++) {
                    low.due(0, "fame", f, week, -100);
                }
            }
            low.due(3, "places", 5);
            low.due(0, "standing", standing);
            for (int w = 1; w <= 6; w++) {
                low.due(0, "plan", w);
                low.due(0, "shown", w, w - 1);
            }
        }

        Show.sentence("7: all STANDING, at the greatest PRICE");
        Show stands = new Show();
        for (int f = 0; f < 8; f++) {
            stands.due(f, "figure", 200);
            for (int week = 0; week <= 5; week++) {
                stands.due(0, "fame", f, week, f == 7 ? 2 : 1);
            }
        }
        stands.due(0, "standing", 255);
        stands.due(3, "places", 1);
        stands.due(12, "plan", 6);
        stands.due(128, "shown", 6, 0);
        stands.due(1, "places", 5);
        stands.due(36, "plan", 6);
        stands.due(143, "shown", 6, 5);
    }

    // ---- Promise 8

    private static void shown() {
        Show.sentence("8: BAD: w (1 .. 6)");
        Show.outside(() -> Show.of(2), BAD, 0, 1, 6, "shown", 1, 0);
        Show.of(2).refused(BAD, "shown", 0, -1);
        Show.of(2).refused(BAD, "shown", 7, 6);
        Show.of(2).refused(BAD, "shown", -1, -2);

        Show.sentence("8: BAD: also a WEEK not of it");
        for (int w = 1; w <= 6; w++) {
            Show s = Show.of(1);
            s.ask("fame", 0, 0, 3);
            s.ask("fame", 0, w - 1, 3);
            s.tells(1, "shown", w, 0);
            s.tells(1, "shown", w, w - 1);
            for (int week : new int[] {-1, w, w + 1, 6, Show.LOW, Show.HIGH}) {
                s.refused(BAD, "shown", w, week);
            }
        }

        Show.sentence("8: the SET of a WEEK in it, as bits: FIGURE 0 is 1, FIGURE 7 is 128");
        Show s = Show.of(8);
        for (int f = 0; f < 8; f++) {
            s.ask("fame", f, f % 6, 50 + f);
        }
        int[] sets = {1 + 64, 2 + 128, 4, 8, 16, 32};
        for (int week = 0; week <= 5; week++) {
            s.tells(sets[week], "shown", 6, week);
        }

        Show.sentence("8: in it: the plan of w WEEKS, not of more");
        Show t = ofPrice(10, 5, 5, 5);
        t.due(0, "shown", 1, 0);
        t.due(0, "shown", 2, 0);
        t.due(1, "shown", 3, 0);
        t.due(0, "shown", 2, 1);
    }
}
