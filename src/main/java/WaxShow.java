/** A show of figures in wax, as the document WaxShow tells it: promises 1 to 29. */
public final class WaxShow {
    public static final int NONE = -1, BAD = -2, NO = -3, FULL = -4;

    private static final int BAD_FAME = -1000, BAD_PLAN = -100000;

    private static final int MOST_FIGURES = 8, MOST_SETS = 1 << MOST_FIGURES;
    private static final int WEEKS = 6, MEASURES = 4, HANDS = 4, ROOMS = 3;
    private static final int MOST_FAME = 100, MOST_PRICE = 200, MOST_PLACES = 5, FIRST_PLACES = 3;
    private static final int LARGEST = 3000, MOST_PICTURES = 12, MOST_DAYS = 50;
    private static final int MOST_HOLD = 100, FIRST_HOLD = 10, MOST_MINUTES = 30, FIRST_MINUTES = 5;
    private static final int MOST_VISITORS = 40, MOST_GROUP = 20, LAST_COMING = 600;
    private static final int LAST_MINUTE = 5000;
    private static final int FIRST_WAX = 1000, LEAST_WAX = 100, WAX_HEAT = 20, SAG_WAX = 10;
    private static final int MOST_HEAT = 60, SAG_HEAT = 30, MOST_HOURS = 50;
    private static final int MOST_TOUCHES_A_CALL = 50, MOST_TOUCHES = 1000;
    private static final int DUE_SAG = 50, DUE_TOUCHES = 20;
    private static final int MOST_LIKENESSES = 20, ASPECTS = 6, COUNTS = 5;

    private final Figure[] figures = new Figure[MOST_FIGURES];
    private final Planner planner = new Planner();
    private final Workshop workshop = new Workshop();
    private final Tour tour = new Tour();
    private final Album album = new Album();
    private int figureCount = 0;
    private int placeCount = FIRST_PLACES;
    private int standingSet = 0;
    private int repairCount = 0;

    public WaxShow() {
        for (int i = 0; i < MOST_FIGURES; i++) {
            figures[i] = new Figure();
        }
    }

    // ---- figures, the plan

    public int figure(int price) {
        if (!within(price, 0, MOST_PRICE)) {
            return BAD;
        }
        if (figureCount >= MOST_FIGURES) {
            return FULL;
        }
        figures[figureCount].price = price;
        figureCount++;
        return figureCount - 1;
    }

    public int fame(int figure, int week, int v) {
        if (!isFigure(figure) || !isWeek(week) || !within(v, -MOST_FAME, MOST_FAME)) {
            return BAD_FAME;
        }
        int before = figures[figure].fameOf[week];
        figures[figure].fameOf[week] = v;
        return before;
    }

    public int rights(int figure, int from, int to) {
        if (!isFigure(figure) || !isWeek(from) || !isWeek(to) || from > to) {
            return BAD;
        }
        figures[figure].rightsFrom = from;
        figures[figure].rightsTo = to;
        return 1;
    }

    public int places(int n) {
        if (!within(n, 1, MOST_PLACES)) {
            return BAD;
        }
        int before = placeCount;
        placeCount = n;
        return before;
    }

    public int standing(int set) {
        if (!isSet(set)) {
            return BAD;
        }
        int before = standingSet;
        standingSet = set;
        return before;
    }

    public int plan(int w) {
        if (!within(w, 1, WEEKS)) {
            return BAD_PLAN;
        }
        layBestPlan(w);
        return planner.worth;
    }

    public int shown(int w, int week) {
        if (!within(w, 1, WEEKS) || !within(week, 0, w - 1)) {
            return BAD;
        }
        layBestPlan(w);
        return planner.chosen[week];
    }

    // ---- measures, hands

    public int picture(int figure, int measure, int from, int to) {
        if (!isMeasure(figure, measure) || !isSize(from) || !isSize(to) || from > to) {
            return BAD;
        }
        if (figures[figure].pictures[measure] >= MOST_PICTURES) {
            return FULL;
        }
        return figures[figure].addPicture(measure, from, to);
    }

    public int span(int figure, int measure, int what) {
        if (!isMeasure(figure, measure) || !within(what, 0, 1)) {
            return BAD;
        }
        return spanEnd(figures[figure], measure, what);
    }

    public int wrong(int figure, int measure) {
        if (!isMeasure(figure, measure)) {
            return BAD;
        }
        return figures[figure].firstWrong[measure];
    }

    public int days(int figure, int hand, int v) {
        if (!isFigure(figure) || !within(hand, 0, HANDS - 1) || !within(v, 0, MOST_DAYS)) {
            return BAD;
        }
        int before = figures[figure].daysOf[hand];
        figures[figure].daysOf[hand] = v;
        workshop.forgetOrder();
        return before;
    }

    public int made(int set) {
        if (!isSet(set)) {
            return BAD;
        }
        workshop.findOrder(figures, set);
        return workshop.lastDay;
    }

    public int order(int set, int i) {
        if (!isSet(set)) {
            return BAD;
        }
        workshop.findOrder(figures, set);
        return within(i, 0, workshop.size - 1) ? workshop.best[i] : NONE;
    }

    // ---- rooms

    public int room(int room, int hold, int minutes) {
        if (!within(room, 0, ROOMS - 1) || !within(hold, 0, MOST_HOLD)
                || !within(minutes, 1, MOST_MINUTES)) {
            return BAD;
        }
        tour.hold[room] = hold;
        tour.minutes[room] = minutes;
        return 1;
    }

    public int come(int minute, int n) {
        if (!within(minute, 0, LAST_COMING) || !within(n, 1, MOST_GROUP)) {
            return BAD;
        }
        if (minute < tour.lastComing()) {
            return NO;
        }
        if (tour.visitors + n > MOST_VISITORS) {
            return FULL;
        }
        return tour.addGroup(minute, n);
    }

    public int empty() {
        int gone = tour.visitors;
        tour.visitors = 0;
        return gone;
    }

    public int out(int visitor) {
        if (!within(visitor, 0, tour.visitors - 1)) {
            return BAD;
        }
        tour.walk();
        int minute = tour.enter[ROOMS][visitor];
        return minute <= LAST_MINUTE ? minute : NONE;
    }

    public int most(int room) {
        if (!within(room, 0, ROOMS)) {
            return BAD;
        }
        tour.walk();
        return room == ROOMS ? tour.mostBetween(tour.coming, tour.enter[0])
                : tour.mostBetween(tour.enter[room], tour.enter[room + 1]);
    }

    // ---- wax, likenesses

    public int heat(int figure, int heat, int n) {
        if (!isFigure(figure) || !within(heat, 0, MOST_HEAT) || !within(n, 1, MOST_HOURS)) {
            return BAD;
        }
        return figures[figure].warm(heat, n);
    }

    public int touch(int figure, int n) {
        if (!isFigure(figure) || !within(n, 0, MOST_TOUCHES_A_CALL)) {
            return BAD;
        }
        figures[figure].touches = Math.min(MOST_TOUCHES, figures[figure].touches + n);
        return figures[figure].touches;
    }

    public int repair(int figure) {
        if (!isFigure(figure)) {
            return BAD;
        }
        if (!figures[figure].needsRepair()) {
            return NO;
        }
        repairCount++;
        return figures[figure].mend();
    }

    public int due() {
        int set = 0;
        for (int i = 0; i < figureCount; i++) {
            if (figures[i].needsRepair()) {
                set |= 1 << i;
            }
        }
        return set;
    }

    public int tell(int a, int b, int c, int d) {
        return isLikeness(a, b, c, d) ? nearest(a, b, c, d) : BAD;
    }

    public int likeness(int figure, int a, int b, int c, int d) {
        if (!isFigure(figure) || !isLikeness(a, b, c, d)) {
            return BAD;
        }
        if (album.size >= MOST_LIKENESSES) {
            return FULL;
        }
        return album.add(figure, a, b, c, d);
    }

    public int known(int figure) {
        if (!isFigure(figure)) {
            return BAD;
        }
        int told = 0;
        for (int i = 0; i < album.size; i++) {
            if (album.owner[i] == figure && nearestTo(album.numbers[i]) == figure) {
                told++;
            }
        }
        return told;
    }

    public int about(int figure, int what) {
        if (!isFigure(figure) || !within(what, 0, ASPECTS - 1)) {
            return BAD;
        }
        return aspect(figures[figure], what);
    }

    public int count(int what) {
        return within(what, 0, COUNTS - 1) ? counted(what) : BAD;
    }

    public long digest() {
        long h = 239;
        for (int what = 0; what < COUNTS; what++) {
            h = 31 * h + counted(what);
        }
        for (int i = 0; i < figureCount; i++) {
            h = mixFigure(h, figures[i]);
        }
        for (int i = 0; i < ROOMS; i++) {
            h = 31 * h + tour.hold[i];
            h = 31 * h + tour.minutes[i];
        }
        return 31 * h + standingSet;
    }

    // ---- what is as told

    private static boolean within(int v, int low, int high) {
        return low <= v && v <= high;
    }

    private static boolean isWeek(int week) {
        return within(week, 0, WEEKS - 1);
    }

    private static boolean isSize(int size) {
        return within(size, 0, LARGEST);
    }

    private static boolean isLikeness(int a, int b, int c, int d) {
        return isSize(a) && isSize(b) && isSize(c) && isSize(d);
    }

    private boolean isFigure(int figure) {
        return within(figure, 0, figureCount - 1);
    }

    private boolean isMeasure(int figure, int measure) {
        return isFigure(figure) && within(measure, 0, MEASURES - 1);
    }

    private boolean isSet(int set) {
        return within(set, 0, (1 << figureCount) - 1);
    }

    // ---- what several calls need

    private void layBestPlan(int weeks) {
        planner.lay(figures, figureCount, placeCount, weeks);
        planner.choose(standingSet, 1 << figureCount, weeks);
    }

    private int nearest(int a, int b, int c, int d) {
        int best = NONE;
        int least = 0;
        for (int i = 0; i < figureCount; i++) {
            if (figures[i].agreesInAll()) {
                int distance = figures[i].distance(a, b, c, d);
                if (best == NONE || distance < least) {
                    best = i;
                    least = distance;
                }
            }
        }
        return best;
    }

    private int nearestTo(int[] row) {
        return row.length == MEASURES ? nearest(row[0], row[1], row[2], row[3]) : NONE;
    }

    private static int spanEnd(Figure f, int measure, int what) {
        if (f.firstWrong[measure] != NONE) {
            return NONE;
        }
        return what == 0 ? f.low[measure] : f.high[measure];
    }

    private static int aspect(Figure f, int what) {
        switch (what) {
            case 0: return f.price;
            case 1: return f.rightsFrom;
            case 2: return f.rightsTo;
            case 3: return f.wax;
            case 4: return f.sag;
            default: return f.touches;
        }
    }

    private int counted(int what) {
        switch (what) {
            case 0: return figureCount;
            case 1: return placeCount;
            case 2: return tour.visitors;
            case 3: return album.size;
            default: return repairCount;
        }
    }

    private static long mixFigure(long start, Figure f) {
        long h = start;
        for (int what = 0; what < ASPECTS; what++) {
            h = 31 * h + aspect(f, what);
        }
        for (int week = 0; week < WEEKS; week++) {
            h = 31 * h + f.fameOf[week];
        }
        for (int measure = 0; measure < MEASURES; measure++) {
            h = 31 * h + spanEnd(f, measure, 0);
            h = 31 * h + spanEnd(f, measure, 1);
        }
        for (int hand = 0; hand < HANDS; hand++) {
            h = 31 * h + f.daysOf[hand];
        }
        return h;
    }

    /** One figure: its fame, price and rights, its measures, its days of work, its wax. */
    private static final class Figure {
        int price = 0;
        int rightsFrom = 0;
        int rightsTo = WEEKS - 1;
        int wax = FIRST_WAX;
        int sag = 0;
        int touches = 0;
        final int[] fameOf = new int[WEEKS];
        final int[] daysOf = new int[HANDS];
        final int[] pictures = new int[MEASURES];
        final int[] low = new int[MEASURES];
        final int[] high = new int[MEASURES];
        final int[] firstWrong = new int[MEASURES];

        Figure() {
            for (int measure = 0; measure < MEASURES; measure++) {
                high[measure] = LARGEST;
                firstWrong[measure] = NONE;
            }
        }

        boolean hasRights(int week) {
            return within(week, rightsFrom, rightsTo);
        }

        int addPicture(int measure, int from, int to) {
            if (firstWrong[measure] == NONE) {
                low[measure] = Math.max(low[measure], from);
                high[measure] = Math.min(high[measure], to);
                if (low[measure] > high[measure]) {
                    firstWrong[measure] = pictures[measure];
                }
            }
            pictures[measure]++;
            return pictures[measure];
        }

        boolean agreesInAll() {
            for (int measure = 0; measure < MEASURES; measure++) {
                if (firstWrong[measure] != NONE) {
                    return false;
                }
            }
            return true;
        }

        int distance(int a, int b, int c, int d) {
            return squareFrom(0, a) + squareFrom(1, b) + squareFrom(2, c) + squareFrom(3, d);
        }

        private int squareFrom(int measure, int size) {
            int off = (low[measure] + high[measure]) / 2 - size;
            return off * off;
        }

        int warm(int heat, int hours) {
            sag += Math.max(0, heat - SAG_HEAT) * hours;
            wax = Math.max(LEAST_WAX, wax - heat / WAX_HEAT * hours);
            return sag;
        }

        boolean needsRepair() {
            return sag >= DUE_SAG || touches >= DUE_TOUCHES;
        }

        int mend() {
            wax += sag / SAG_WAX;
            sag = 0;
            touches = 0;
            return wax;
        }
    }

    /** The best plan, reckoned from its last week back to week 0. */
    private static final class Planner {
        // below every worth: what fame and prices can add to it in six weeks leaves it so
        private static final int NEVER_SHOWN = -1000000;

        int worth = 0;
        final int[] chosen = new int[WEEKS];
        private final int[][] gain = new int[WEEKS][MOST_SETS];
        private final int[] ahead = new int[MOST_SETS];
        private final int[] priceSum = new int[MOST_SETS];

        /** gain[week][set]: the fame of the set in the week, and the best worth of all later weeks. */
        void lay(Figure[] figures, int figureCount, int places, int weeks) {
            int sets = 1 << figureCount;
            sumPrices(figures, figureCount);
            for (int set = 0; set < sets; set++) {
                ahead[set] = 0;
            }
            for (int week = weeks - 1; week >= 0; week--) {
                sumFame(figures, figureCount, week);
                int righted = righted(figures, figureCount, week);
                for (int set = 0; set < sets; set++) {
                    boolean allowed = Integer.bitCount(set) <= places && (set & ~righted) == 0;
                    gain[week][set] = allowed ? gain[week][set] + ahead[set] : NEVER_SHOWN;
                }
                lookAhead(figures, figureCount, week);
            }
        }

        /** The sets of the best plan; of like ones the first by number, week by week. */
        void choose(int standing, int sets, int weeks) {
            int before = standing;
            for (int week = 0; week < weeks; week++) {
                int best = 0;
                int most = gain[week][0];
                for (int set = 1; set < sets; set++) {
                    int here = gain[week][set] - priceSum[set & ~before];
                    if (here > most) {
                        best = set;
                        most = here;
                    }
                }
                if (week == 0) {
                    worth = most;
                }
                chosen[week] = best;
                before = best;
            }
        }

        private void sumPrices(Figure[] figures, int figureCount) {
            priceSum[0] = 0;
            for (int i = 0; i < figureCount; i++) {
                int bit = 1 << i;
                for (int set = 0; set < bit; set++) {
                    priceSum[set | bit] = priceSum[set] + figures[i].price;
                }
            }
        }

        private void sumFame(Figure[] figures, int figureCount, int week) {
            gain[week][0] = 0;
            for (int i = 0; i < figureCount; i++) {
                int bit = 1 << i;
                for (int set = 0; set < bit; set++) {
                    gain[week][set | bit] = gain[week][set] + figures[i].fameOf[week];
                }
            }
        }

        private static int righted(Figure[] figures, int figureCount, int week) {
            int set = 0;
            for (int i = 0; i < figureCount; i++) {
                if (figures[i].hasRights(week)) {
                    set |= 1 << i;
                }
            }
            return set;
        }

        /**
         * ahead[before]: the best of gain[week] less the prices of what was not in the set before.
         * Each figure's price hangs on its own bit alone, so the bits are settled one by one.
         */
        private void lookAhead(Figure[] figures, int figureCount, int week) {
            int sets = 1 << figureCount;
            for (int set = 0; set < sets; set++) {
                ahead[set] = gain[week][set];
            }
            for (int i = 0; i < figureCount; i++) {
                int bit = 1 << i;
                for (int set = 0; set < sets; set++) {
                    if ((set & bit) == 0) {
                        int without = ahead[set];
                        int with = ahead[set | bit];
                        ahead[set] = Math.max(without, with - figures[i].price);
                        ahead[set | bit] = Math.max(without, with);
                    }
                }
            }
        }
    }

    /** The hands at work on one figure after another, and the order that is over first. */
    private static final class Workshop {
        private static final int NO_ORDER = 1000000;
        private static final int NO_SET = -1;

        int size = 0;
        int lastDay = 0;
        final int[] best = new int[MOST_FIGURES];
        private int orderedSet = NO_SET;
        private final int[] row = new int[MOST_FIGURES];
        private final int[][] doneAfter = new int[MOST_FIGURES + 1][HANDS];
        private final int[][] daysOf = new int[MOST_FIGURES][HANDS];
        private final int[][] daysBehind = new int[MOST_FIGURES][HANDS];

        void forgetOrder() {
            orderedSet = NO_SET;
        }

        /** An order that was found is kept till days change: a set is mostly asked about again. */
        void findOrder(Figure[] figures, int set) {
            if (set == orderedSet) {
                return;
            }
            for (int i = 0; i < MOST_FIGURES; i++) {
                takeDays(i, figures[i].daysOf);
            }
            size = Integer.bitCount(set);
            lastDay = NO_ORDER;
            search(this, 0, set);
            orderedSet = set;
        }

        private void takeDays(int figure, int[] days) {
            int behind = 0;
            for (int hand = HANDS - 1; hand >= 0; hand--) {
                daysOf[figure][hand] = days[hand];
                daysBehind[figure][hand] = behind;
                behind += days[hand];
            }
        }

        /** Tries the figures left in order of number, so that of like orders the first one stays. */
        private static void search(Workshop shop, int depth, int left) {
            if (depth > MOST_FIGURES || shop.soonestEnd(depth, left) >= shop.lastDay) {
                return;
            }
            if (left == 0) {
                shop.keepRow(depth);
                return;
            }
            for (int i = 0; i < MOST_FIGURES && depth < MOST_FIGURES; i++) {
                if ((left & 1 << i) != 0) {
                    shop.work(depth, i);
                    search(shop, depth + 1, left & ~(1 << i));
                }
            }
        }

        private void work(int depth, int figure) {
            row[depth] = figure;
            int handAhead = 0;
            for (int hand = 0; hand < HANDS; hand++) {
                int begin = Math.max(doneAfter[depth][hand], handAhead);
                handAhead = begin + daysOf[figure][hand];
                doneAfter[depth + 1][hand] = handAhead;
            }
        }

        /**
         * No order of those left can be over sooner: each hand has all of them to do yet, and the
         * last of them has still to go through the hands behind. With none left it is the end.
         */
        private int soonestEnd(int depth, int left) {
            int end = 0;
            for (int hand = 0; hand < HANDS; hand++) {
                int day = doneAfter[depth][hand];
                int leastBehind = left == 0 ? 0 : NO_ORDER;
                for (int i = 0; i < MOST_FIGURES; i++) {
                    if ((left & 1 << i) != 0) {
                        day += daysOf[i][hand];
                        leastBehind = Math.min(leastBehind, daysBehind[i][hand]);
                    }
                }
                end = Math.max(end, day + leastBehind);
            }
            return end;
        }

        private void keepRow(int depth) {
            lastDay = doneAfter[depth][HANDS - 1];
            for (int i = 0; i < depth && i < MOST_FIGURES; i++) {
                best[i] = row[i];
            }
        }
    }

    /** The visitors on their way through the rooms. */
    private static final class Tour {
        // far above the last minute, so that it stays above it with all minutes added
        private static final int NEVER = 1000000;

        int visitors = 0;
        final int[] hold = new int[ROOMS];
        final int[] minutes = new int[ROOMS];
        final int[] coming = new int[MOST_VISITORS];
        final int[][] enter = new int[ROOMS + 1][MOST_VISITORS];

        Tour() {
            for (int i = 0; i < ROOMS; i++) {
                hold[i] = FIRST_HOLD;
                minutes[i] = FIRST_MINUTES;
            }
        }

        int lastComing() {
            return visitors > 0 ? coming[visitors - 1] : 0;
        }

        int addGroup(int minute, int n) {
            int end = Math.min(MOST_VISITORS, visitors + n);
            for (int v = visitors; v < end; v++) {
                coming[v] = minute;
            }
            visitors = end;
            return visitors;
        }

        /**
         * enter[r][v]: the minute in which visitor v comes into room r (of room 3: is out).
         * All look as long in a room and go on by numbers, so nobody overtakes: v comes in as soon
         * as it has looked and the one that is a full room ahead of it has gone on. That one's
         * place is free in the same minute, for the rooms behind are settled first.
         */
        void walk() {
            for (int v = 0; v < visitors; v++) {
                int minute = coming[v];
                for (int r = 0; r < ROOMS; r++) {
                    if (hold[r] == 0) {
                        minute = NEVER;
                    } else if (hold[r] <= v) {
                        minute = Math.max(minute, enter[r + 1][v - hold[r]]);
                    }
                    enter[r][v] = minute;
                    minute += minutes[r];
                }
                enter[ROOMS][v] = minute;
            }
        }

        /** The most that are there at once; it grows only in a minute in which one comes. */
        int mostBetween(int[] from, int[] to) {
            int most = 0;
            for (int v = 0; v < visitors; v++) {
                if (from[v] <= LAST_MINUTE) {
                    most = Math.max(most, thereAt(from[v], from, to));
                }
            }
            return most;
        }

        private int thereAt(int minute, int[] from, int[] to) {
            int there = 0;
            for (int v = 0; v < visitors; v++) {
                if (from[v] <= minute && minute < to[v]) {
                    there++;
                }
            }
            return there;
        }
    }

    /** The likenesses that were told as some figure's. */
    private static final class Album {
        int size = 0;
        final int[] owner = new int[MOST_LIKENESSES];
        final int[][] numbers = new int[MOST_LIKENESSES][MEASURES];

        int add(int figure, int a, int b, int c, int d) {
            owner[size] = figure;
            numbers[size][0] = a;
            numbers[size][1] = b;
            numbers[size][2] = c;
            numbers[size][3] = d;
            size++;
            return size;
        }
    }
}
