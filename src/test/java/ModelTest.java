import java.lang.reflect.Method;
import java.lang.reflect.Modifier;
import java.util.ArrayList;
import java.util.Arrays;
import java.util.List;
import java.util.Map;
import java.util.Set;
import java.util.TreeMap;

// Runs of calls, made by a fixed rule, on WaxShow and on a model that does just what the words of the
// document say, in the slowest way: plans week by week, rooms minute by minute, every order of hands.
public final class ModelTest {
    private static final int NONE = -1, BAD = -2, NO = -3, FULL = -4;
    private static final int RUNS = 180, CALLS = 300;
    private static long state = 20261118L;
    private static int wrong = 0;

    public static void main(String[] args) throws ReflectiveOperationException {
        plansOneByOne();
        for (int run = 0; run < RUNS; run++) {
            oneRun(run);
        }
        strangeNumbers();
        System.out.println(wrong == 0 ? "all answers are as due" : wrong + " answers are not as due");
        if (wrong != 0) {
            System.exit(1);
        }
    }

    private static void due(String call, long got, long want) {
        if (got != want) {
            wrong++;
            if (wrong <= 40) {
                System.out.println(call + " answered " + got + ", due is " + want);
            }
        }
    }

    // ---- numbers by a fixed rule

    private static int next(int bound) {
        state = state * 6364136223846793005L + 1442695040888963407L;
        return (int) Long.remainderUnsigned(state >>> 20, bound);
    }

    /** Mostly low .. high, often one of the ends, at times just outside. */
    private static int number(int low, int high) {
        switch (next(16)) {
            case 0: return low;
            case 1: return high;
            case 2: return next(4) == 0 ? low - 1 : low;
            case 3: return next(4) == 0 ? high + 1 : high;
            default: return low + next(high - low + 1);
        }
    }

    // ---- every plan there is, for a few figures

    private static void plansOneByOne() {
        for (int turn = 0; turn < 60; turn++) {
            int n = 1 + next(3);
            int weeks = n == 3 ? 1 + next(4) : 1 + next(6);
            WaxShow x = new WaxShow();
            Model m = new Model();
            for (int i = 0; i < n; i++) {
                int price = next(6);
                x.figure(price);
                m.figure(price);
                for (int week = 0; week < 6; week++) {
                    int v = next(9) - 3;
                    x.fame(i, week, v);
                    m.fame(i, week, v);
                }
                if (next(3) == 0) {
                    int from = next(6);
                    int to = from + next(6 - from);
                    x.rights(i, from, to);
                    m.rights(i, from, to);
                }
            }
            int places = 1 + next(n);
            x.places(places);
            m.places(places);
            int standing = next(1 << n);
            x.standing(standing);
            m.standing(standing);
            int[] best = null;
            int most = 0;
            int[] sets = new int[weeks];
            for (long k = 0; k < 1L << n * weeks; k++) {
                for (int week = 0; week < weeks; week++) {
                    sets[week] = (int) (k >> n * (weeks - 1 - week)) & (1 << n) - 1;
                }
                if (m.isAllowed(sets) && (best == null || m.worthOf(sets) > most)) {
                    best = sets.clone();
                    most = m.worthOf(sets);
                }
            }
            due("one by one: plan(" + weeks + ")", x.plan(weeks), most);
            due("model: plan(" + weeks + ")", m.plan(weeks), most);
            for (int week = 0; week < weeks; week++) {
                due("one by one: shown(" + weeks + ", " + week + ")", x.shown(weeks, week), best[week]);
                due("model: shown(" + weeks + ", " + week + ")", m.shown(weeks, week), best[week]);
            }
        }
    }

    // ---- runs of calls

    private static void oneRun(int run) {
        WaxShow x = new WaxShow();
        Model m = new Model();
        StringBuilder log = new StringBuilder();
        int before = wrong;
        // a run keeps to some part of the face, so that it gets far in it
        int part = run % 6;
        for (int i = 0; i < CALLS && wrong == before; i++) {
            oneCall(run, x, m, part, i, log);
            if (i % 8 == 0 && wrong == before) {
                due("run " + run + ": digest()", x.digest(), m.digest());
            }
        }
        if (wrong != before && before < 3) {
            System.out.println("run " + run + ":" + log);
        }
    }

    private static void oneCall(int run, WaxShow x, Model m, int part, int i, StringBuilder log) {
        int figures = m.prices.size();
        int f = number(0, Math.max(0, figures - 1));
        if (part != 2 && (i < 5 || next(50) == 0)) {
            int price = part == 5 ? number(0, 3) : number(0, 200);
            check(log, "figure(" + price + ")", x.figure(price), m.figure(price));
            return;
        }
        int kind = next(8) < 6 ? part : next(6);
        switch (kind) {
            case 0: case 5: planCall(x, m, f, kind == 5, log); return;
            case 1: measureCall(x, m, f, log); return;
            case 2: roomCall(x, m, log); return;
            case 3: waxCall(x, m, f, log); return;
            default: orderCall(x, m, f, log);
        }
    }

    private static void check(StringBuilder log, String call, long got, long want) {
        log.append(' ').append(call);
        due(call, got, want);
    }

    private static void planCall(WaxShow x, Model m, int f, boolean small, StringBuilder log) {
        int a = number(0, 5);
        int b = number(0, 5);
        int set = number(0, (1 << m.prices.size()) - 1);
        switch (next(8)) {
            case 0: {
                int n = number(1, 5);
                check(log, "places(" + n + ")", x.places(n), m.places(n));
                return;
            }
            case 1:
                check(log, "standing(" + set + ")", x.standing(set), m.standing(set));
                return;
            case 2:
                check(log, "rights(" + f + ", " + a + ", " + b + ")", x.rights(f, a, b), m.rights(f, a, b));
                return;
            case 3: {
                int w = number(1, 6);
                check(log, "plan(" + w + ")", x.plan(w), m.plan(w));
                int week = number(0, Math.max(0, w - 1));
                check(log, "shown(" + w + ", " + week + ")", x.shown(w, week), m.shown(w, week));
                return;
            }
            default: {
                int v = small ? number(-2, 3) : number(-100, 100);
                check(log, "fame(" + f + ", " + a + ", " + v + ")", x.fame(f, a, v), m.fame(f, a, v));
            }
        }
    }

    private static void measureCall(WaxShow x, Model m, int f, StringBuilder log) {
        int measure = number(0, 3);
        int a = number(0, 3000);
        int b = number(0, 3000);
        int c = number(0, 3000);
        int d = number(0, 3000);
        switch (next(7)) {
            case 0: case 1: {
                int from = next(6) == 0 ? a : a / 3;
                int to = next(6) == 0 ? b : 3000 - b / 3;
                check(log, "picture(" + f + ", " + measure + ", " + from + ", " + to + ")",
                        x.picture(f, measure, from, to), m.picture(f, measure, from, to));
                return;
            }
            case 2: {
                int what = number(0, 1);
                check(log, "span(" + f + ", " + measure + ", " + what + ")",
                        x.span(f, measure, what), m.span(f, measure, what));
                return;
            }
            case 3:
                check(log, "wrong(" + f + ", " + measure + ")", x.wrong(f, measure), m.wrong(f, measure));
                return;
            case 4:
                check(log, "likeness(" + f + ", " + a + ", " + b + ", " + c + ", " + d + ")",
                        x.likeness(f, a, b, c, d), m.likeness(f, a, b, c, d));
                return;
            case 5:
                check(log, "known(" + f + ")", x.known(f), m.known(f));
                return;
            default:
                check(log, "tell(" + a + ", " + b + ", " + c + ", " + d + ")",
                        x.tell(a, b, c, d), m.tell(a, b, c, d));
        }
    }

    private static void orderCall(WaxShow x, Model m, int f, StringBuilder log) {
        int hand = number(0, 3);
        int set = number(0, (1 << m.prices.size()) - 1);
        if (Integer.bitCount(set) > 6 && next(8) != 0) {
            set &= 63;
        }
        if (next(3) == 0) {
            check(log, "made(" + set + ")", x.made(set), m.made(set));
            for (int i = -1; i < 9; i++) {
                check(log, "order(" + set + ", " + i + ")", x.order(set, i), m.order(set, i));
            }
        } else {
            int v = next(2) == 0 ? number(0, 4) : number(0, 50);
            check(log, "days(" + f + ", " + hand + ", " + v + ")", x.days(f, hand, v), m.days(f, hand, v));
        }
    }

    private static void roomCall(WaxShow x, Model m, StringBuilder log) {
        switch (next(8)) {
            case 0: {
                int room = number(0, 2);
                int hold = next(3) == 0 ? number(0, 100) : number(0, 6);
                int minutes = number(1, 30);
                check(log, "room(" + room + ", " + hold + ", " + minutes + ")",
                        x.room(room, hold, minutes), m.room(room, hold, minutes));
                return;
            }
            case 1:
                if (next(4) == 0) {
                    check(log, "empty()", x.empty(), m.empty());
                }
                return;
            case 2: case 3: {
                int last = m.coming.isEmpty() ? 0 : m.coming.get(m.coming.size() - 1);
                int minute = next(6) == 0 ? number(0, 600) : last + number(0, 8);
                int n = number(1, next(4) == 0 ? 20 : 6);
                check(log, "come(" + minute + ", " + n + ")", x.come(minute, n), m.come(minute, n));
                return;
            }
            default:
                for (int room = -1; room <= 4; room++) {
                    check(log, "most(" + room + ")", x.most(room), m.most(room));
                }
                for (int v = -1; v <= m.coming.size(); v++) {
                    check(log, "out(" + v + ")", x.out(v), m.out(v));
                }
        }
    }

    private static void waxCall(WaxShow x, Model m, int f, StringBuilder log) {
        switch (next(7)) {
            case 0: case 1: {
                int heat = number(0, 60);
                int n = next(2) == 0 ? number(1, 3) : number(1, 50);
                check(log, "heat(" + f + ", " + heat + ", " + n + ")", x.heat(f, heat, n), m.heat(f, heat, n));
                return;
            }
            case 2: {
                int n = next(2) == 0 ? number(0, 8) : number(0, 50);
                check(log, "touch(" + f + ", " + n + ")", x.touch(f, n), m.touch(f, n));
                return;
            }
            case 3:
                if (next(3) == 0) {
                    check(log, "repair(" + f + ")", x.repair(f), m.repair(f));
                }
                return;
            case 4:
                check(log, "due()", x.due(), m.due());
                return;
            case 5: {
                int what = number(0, 5);
                check(log, "about(" + f + ", " + what + ")", x.about(f, what), m.about(f, what));
                return;
            }
            default: {
                int what = number(0, 4);
                check(log, "count(" + what + ")", x.count(what), m.count(what));
            }
        }
    }

    // ---- the widest numbers there are, in a new object and in one that is full

    private static void strangeNumbers() throws ReflectiveOperationException {
        int[] strange = {Integer.MIN_VALUE, Integer.MIN_VALUE + 1, -100001, -1001, -2, -1, 0, 1, 2, 3, 5, 7,
            8, 9, 12, 21, 31, 41, 256, 3001, 5001, 1 << 30, Integer.MAX_VALUE - 1, Integer.MAX_VALUE};
        Map<String, Method> face = faceOf(WaxShow.class, null);
        Map<String, Method> model = faceOf(Model.class, face.keySet());
        due("methods of the face", face.size(), 28);
        for (int turn = 0; turn < 6; turn++) {
            for (String name : face.keySet()) {
                WaxShow x = new WaxShow();
                Model m = new Model();
                if (turn % 2 == 1) {
                    fill(x, m);
                }
                boolean ofSet = name.equals("made") || name.equals("order");
                for (int i = 0; i < 300; i++) {
                    int[] p = new int[5];
                    for (int k = 0; k < 5; k++) {
                        p[k] = strange[next(strange.length)];
                    }
                    // the model is slow in the order of many
                    p[0] = ofSet ? p[0] & 0x8000001f : p[0];
                    due(name + " with " + Arrays.toString(p), answer(x, face.get(name), p),
                            answer(m, model.get(name), p));
                }
                due("digest() after " + name, x.digest(), m.digest());
            }
        }
    }

    private static void fill(WaxShow x, Model m) {
        for (int i = 0; i < 8; i++) {
            x.figure(i);
            m.figure(i);
            x.days(i, i % 4, i);
            m.days(i, i % 4, i);
        }
        x.come(600, 20);
        m.come(600, 20);
        x.come(600, 20);
        m.come(600, 20);
        for (int i = 0; i < 20; i++) {
            x.likeness(0, i, i, i, i);
            m.likeness(0, i, i, i, i);
        }
        for (int i = 0; i < 12; i++) {
            x.picture(3, 3, i, 3000);
            m.picture(3, 3, i, 3000);
        }
    }

    /** The methods of the document's face, by their names: no two have the same one. */
    private static Map<String, Method> faceOf(Class<?> c, Set<String> names) {
        Map<String, Method> face = new TreeMap<>();
        for (Method m : c.getDeclaredMethods()) {
            if (names == null ? Modifier.isPublic(m.getModifiers()) : names.contains(m.getName())) {
                face.put(m.getName(), m);
            }
        }
        return face;
    }

    private static long answer(Object x, Method call, int[] p) throws ReflectiveOperationException {
        Object[] row = new Object[call.getParameterCount()];
        for (int i = 0; i < row.length; i++) {
            row[i] = p[i];
        }
        return ((Number) call.invoke(x, row)).longValue();
    }

    /** The document's words, one after another, with no thought of speed. */
    private static final class Model {
        final List<Integer> prices = new ArrayList<>();
        final List<int[]> fames = new ArrayList<>();
        final List<int[]> rightsOf = new ArrayList<>();
        final List<int[]> hands = new ArrayList<>();
        final List<List<List<int[]>>> pictures = new ArrayList<>();
        final List<int[]> waxSagTouches = new ArrayList<>();
        final List<Integer> coming = new ArrayList<>();
        final List<int[]> likenesses = new ArrayList<>();
        final int[][] rooms = {{10, 5}, {10, 5}, {10, 5}};
        int places = 3;
        int standing = 0;
        int repairs = 0;
        int[] outAt = new int[0];
        final int[] mostIn = new int[4];

        int figure(int price) {
            if (price < 0 || price > 200) {
                return BAD;
            }
            if (prices.size() == 8) {
                return FULL;
            }
            prices.add(price);
            fames.add(new int[6]);
            rightsOf.add(new int[] {0, 5});
            hands.add(new int[4]);
            waxSagTouches.add(new int[] {1000, 0, 0});
            List<List<int[]>> four = new ArrayList<>();
            for (int i = 0; i < 4; i++) {
                four.add(new ArrayList<>());
            }
            pictures.add(four);
            return prices.size() - 1;
        }

        boolean notThere(int f) {
            return f < 0 || f >= prices.size();
        }

        boolean noSet(int set) {
            for (int bit = 0; bit < 32; bit++) {
                if ((set >>> bit & 1) == 1 && bit >= prices.size()) {
                    return true;
                }
            }
            return false;
        }

        int fame(int f, int week, int v) {
            if (notThere(f) || week < 0 || week > 5 || v < -100 || v > 100) {
                return -1000;
            }
            int was = fames.get(f)[week];
            fames.get(f)[week] = v;
            return was;
        }

        int rights(int f, int from, int to) {
            if (notThere(f) || from < 0 || from > 5 || to < 0 || to > 5 || to < from) {
                return BAD;
            }
            rightsOf.get(f)[0] = from;
            rightsOf.get(f)[1] = to;
            return 1;
        }

        int places(int n) {
            if (n < 1 || n > 5) {
                return BAD;
            }
            int was = places;
            places = n;
            return was;
        }

        int standing(int set) {
            if (noSet(set)) {
                return BAD;
            }
            int was = standing;
            standing = set;
            return was;
        }

        boolean isAllowed(int week, int set) {
            int n = 0;
            for (int f = 0; f < prices.size(); f++) {
                if ((set >> f & 1) == 1) {
                    n++;
                    if (week < rightsOf.get(f)[0] || week > rightsOf.get(f)[1]) {
                        return false;
                    }
                }
            }
            return n <= places;
        }

        boolean isAllowed(int[] sets) {
            for (int week = 0; week < sets.length; week++) {
                if (!isAllowed(week, sets[week])) {
                    return false;
                }
            }
            return true;
        }

        int worthOf(int week, int before, int set) {
            int worth = 0;
            for (int f = 0; f < prices.size(); f++) {
                if ((set >> f & 1) == 1) {
                    worth += fames.get(f)[week];
                    if ((before >> f & 1) == 0) {
                        worth -= prices.get(f);
                    }
                }
            }
            return worth;
        }

        int worthOf(int[] sets) {
            int worth = 0;
            for (int week = 0; week < sets.length; week++) {
                worth += worthOf(week, week == 0 ? standing : sets[week - 1], sets[week]);
            }
            return worth;
        }

        /** For each set ahead of a week the best rest of the plan: its worth, then its sets. */
        int[] best(int w) {
            int sets = 1 << prices.size();
            int[][] rest = new int[sets][1];
            for (int week = w - 1; week >= 0; week--) {
                int[][] here = new int[sets][];
                for (int before = 0; before < sets; before++) {
                    // only what can have been the set ahead
                    if (week == 0 ? before != standing : !isAllowed(week - 1, before)) {
                        continue;
                    }
                    int bestSet = -1;
                    int most = 0;
                    for (int set = 0; set < sets; set++) {
                        if (isAllowed(week, set)) {
                            int worth = worthOf(week, before, set) + rest[set][0];
                            if (bestSet < 0 || worth > most) {
                                bestSet = set;
                                most = worth;
                            }
                        }
                    }
                    int[] row = new int[w - week + 1];
                    row[0] = most;
                    row[1] = bestSet;
                    System.arraycopy(rest[bestSet], 1, row, 2, rest[bestSet].length - 1);
                    here[before] = row;
                }
                rest = here;
            }
            return rest[standing];
        }

        int plan(int w) {
            return w < 1 || w > 6 ? -100000 : best(w)[0];
        }

        int shown(int w, int week) {
            return w < 1 || w > 6 || week < 0 || week >= w ? BAD : best(w)[1 + week];
        }

        int picture(int f, int measure, int from, int to) {
            if (notThere(f) || measure < 0 || measure > 3 || from < 0 || to > 3000 || from > to) {
                return BAD;
            }
            List<int[]> all = pictures.get(f).get(measure);
            if (all.size() == 12) {
                return FULL;
            }
            all.add(new int[] {from, to});
            return all.size();
        }

        /** What the first n spans have in common, or null. */
        int[] common(int f, int measure, int n) {
            int[] span = {0, 3000};
            for (int i = 0; i < n; i++) {
                int[] one = pictures.get(f).get(measure).get(i);
                span[0] = Math.max(span[0], one[0]);
                span[1] = Math.min(span[1], one[1]);
            }
            return span[0] > span[1] ? null : span;
        }

        int[] common(int f, int measure) {
            return common(f, measure, pictures.get(f).get(measure).size());
        }

        int span(int f, int measure, int what) {
            if (notThere(f) || measure < 0 || measure > 3 || what < 0 || what > 1) {
                return BAD;
            }
            int[] span = common(f, measure);
            return span == null ? NONE : span[what];
        }

        int wrong(int f, int measure) {
            if (notThere(f) || measure < 0 || measure > 3) {
                return BAD;
            }
            for (int n = 1; n <= pictures.get(f).get(measure).size(); n++) {
                if (common(f, measure, n) == null) {
                    return n - 1;
                }
            }
            return NONE;
        }

        int days(int f, int hand, int v) {
            if (notThere(f) || hand < 0 || hand > 3 || v < 0 || v > 50) {
                return BAD;
            }
            int was = hands.get(f)[hand];
            hands.get(f)[hand] = v;
            return was;
        }

        private int[] bestRow;
        private int bestEnd;

        private void tryRows(int[] row, int depth, int left) {
            if (left == 0) {
                int[] free = new int[4];
                for (int f : row) {
                    int ready = 0;
                    for (int hand = 0; hand < 4; hand++) {
                        ready = Math.max(ready, free[hand]) + hands.get(f)[hand];
                        free[hand] = ready;
                    }
                }
                if (bestRow == null || free[3] < bestEnd) {
                    bestRow = row.clone();
                    bestEnd = free[3];
                }
                return;
            }
            for (int f = 0; f < 8; f++) {
                if ((left >> f & 1) == 1) {
                    row[depth] = f;
                    tryRows(row, depth + 1, left & ~(1 << f));
                }
            }
        }

        private final int[] rowAsked = {-1};
        private final List<int[]> daysAsked = new ArrayList<>();

        /** Every order; kept while the same one is asked about, for it is slow. */
        private void findRow(int set) {
            boolean same = rowAsked[0] == set && daysAsked.size() == hands.size();
            for (int f = 0; same && f < hands.size(); f++) {
                same = Arrays.equals(daysAsked.get(f), hands.get(f));
            }
            if (same) {
                return;
            }
            bestRow = null;
            tryRows(new int[Integer.bitCount(set)], 0, set);
            rowAsked[0] = set;
            daysAsked.clear();
            for (int[] row : hands) {
                daysAsked.add(row.clone());
            }
        }

        int made(int set) {
            if (noSet(set)) {
                return BAD;
            }
            findRow(set);
            return bestEnd;
        }

        int order(int set, int i) {
            if (noSet(set)) {
                return BAD;
            }
            findRow(set);
            return i < 0 || i >= bestRow.length ? NONE : bestRow[i];
        }

        int room(int room, int hold, int minutes) {
            if (room < 0 || room > 2 || hold < 0 || hold > 100 || minutes < 1 || minutes > 30) {
                return BAD;
            }
            rooms[room][0] = hold;
            rooms[room][1] = minutes;
            return 1;
        }

        int come(int minute, int n) {
            if (minute < 0 || minute > 600 || n < 1 || n > 20) {
                return BAD;
            }
            if (!coming.isEmpty() && minute < coming.get(coming.size() - 1)) {
                return NO;
            }
            if (coming.size() + n > 40) {
                return FULL;
            }
            for (int i = 0; i < n; i++) {
                coming.add(minute);
            }
            return coming.size();
        }

        int empty() {
            int n = coming.size();
            coming.clear();
            return n;
        }

        /** Minute by minute; place -1 is outside, 3 is out. */
        void simulate() {
            int n = coming.size();
            int[] place = new int[n];
            int[] since = new int[n];
            outAt = new int[n];
            Arrays.fill(place, -1);
            Arrays.fill(outAt, NONE);
            Arrays.fill(mostIn, 0);
            for (int minute = 0; minute <= 5000; minute++) {
                for (int room = 2; room >= -1; room--) {
                    for (int v = 0; v < n; v++) {
                        boolean ready = place[v] == room && (room == -1 ? coming.get(v) <= minute
                                : since[v] + rooms[room][1] <= minute);
                        if (ready && (room == 2 || within(place, room + 1) < rooms[room + 1][0])) {
                            place[v] = room + 1;
                            since[v] = minute;
                            if (room == 2) {
                                outAt[v] = minute;
                            }
                        }
                    }
                }
                int outside = 0;
                for (int v = 0; v < n; v++) {
                    if (place[v] == -1 && coming.get(v) <= minute) {
                        outside++;
                    }
                }
                mostIn[3] = Math.max(mostIn[3], outside);
                for (int room = 0; room < 3; room++) {
                    mostIn[room] = Math.max(mostIn[room], within(place, room));
                }
            }
        }

        private static int within(int[] place, int room) {
            int n = 0;
            for (int p : place) {
                if (p == room) {
                    n++;
                }
            }
            return n;
        }

        private String simulated = "";

        /** The answers for the same visitors and rooms are kept, for the minutes are many. */
        private void simulateOnce() {
            String now = coming + Arrays.deepToString(rooms);
            if (!now.equals(simulated)) {
                simulate();
                simulated = now;
            }
        }

        int out(int v) {
            if (v < 0 || v >= coming.size()) {
                return BAD;
            }
            simulateOnce();
            return outAt[v];
        }

        int most(int room) {
            if (room < 0 || room > 3) {
                return BAD;
            }
            simulateOnce();
            return mostIn[room];
        }

        int heat(int f, int heat, int n) {
            if (notThere(f) || heat < 0 || heat > 60 || n < 1 || n > 50) {
                return BAD;
            }
            int[] w = waxSagTouches.get(f);
            for (int hour = 0; hour < n; hour++) {
                if (heat - 30 > 0) {
                    w[1] += heat - 30;
                }
                w[0] -= heat / 20;
                if (w[0] < 100) {
                    w[0] = 100;
                }
            }
            return w[1];
        }

        int touch(int f, int n) {
            if (notThere(f) || n < 0 || n > 50) {
                return BAD;
            }
            int[] w = waxSagTouches.get(f);
            w[2] += n;
            if (w[2] > 1000) {
                w[2] = 1000;
            }
            return w[2];
        }

        int repair(int f) {
            if (notThere(f)) {
                return BAD;
            }
            if ((due() >> f & 1) == 0) {
                return NO;
            }
            int[] w = waxSagTouches.get(f);
            w[0] += w[1] / 10;
            w[1] = 0;
            w[2] = 0;
            repairs++;
            return w[0];
        }

        int due() {
            int set = 0;
            for (int f = 0; f < prices.size(); f++) {
                int[] w = waxSagTouches.get(f);
                if (w[1] >= 50 || w[2] >= 20) {
                    set += 1 << f;
                }
            }
            return set;
        }

        private static boolean noLikeness(int... row) {
            for (int v : row) {
                if (v < 0 || v > 3000) {
                    return true;
                }
            }
            return false;
        }

        int tell(int a, int b, int c, int d) {
            if (noLikeness(a, b, c, d)) {
                return BAD;
            }
            int[] row = {a, b, c, d};
            int best = NONE;
            long least = Long.MAX_VALUE;
            for (int f = 0; f < prices.size(); f++) {
                long sum = 0;
                for (int m = 0; m < 4 && sum >= 0; m++) {
                    int[] span = common(f, m);
                    long off = span == null ? 0 : (span[0] + span[1]) / 2 - row[m];
                    sum = span == null ? -1 : sum + off * off;
                }
                if (sum >= 0 && sum < least) {
                    best = f;
                    least = sum;
                }
            }
            return best;
        }

        int likeness(int f, int a, int b, int c, int d) {
            if (notThere(f) || noLikeness(a, b, c, d)) {
                return BAD;
            }
            if (likenesses.size() == 20) {
                return FULL;
            }
            likenesses.add(new int[] {f, a, b, c, d});
            return likenesses.size();
        }

        int known(int f) {
            if (notThere(f)) {
                return BAD;
            }
            int n = 0;
            for (int[] l : likenesses) {
                if (l[0] == f && tell(l[1], l[2], l[3], l[4]) == f) {
                    n++;
                }
            }
            return n;
        }

        int about(int f, int what) {
            if (notThere(f) || what < 0 || what > 5) {
                return BAD;
            }
            return what == 0 ? prices.get(f) : what <= 2 ? rightsOf.get(f)[what - 1]
                    : waxSagTouches.get(f)[what - 3];
        }

        int count(int what) {
            int[] counts = {prices.size(), places, coming.size(), likenesses.size(), repairs};
            return what < 0 || what > 4 ? BAD : counts[what];
        }

        long digest() {
            List<Integer> row = new ArrayList<>();
            for (int i = 0; i <= 4; i++) {
                row.add(count(i));
            }
            for (int f = 0; f < prices.size(); f++) {
                for (int i = 0; i <= 5; i++) {
                    row.add(about(f, i));
                }
                for (int v : fames.get(f)) {
                    row.add(v);
                }
                for (int m = 0; m < 4; m++) {
                    row.add(span(f, m, 0));
                    row.add(span(f, m, 1));
                }
                for (int v : hands.get(f)) {
                    row.add(v);
                }
            }
            for (int[] room : rooms) {
                row.add(room[0]);
                row.add(room[1]);
            }
            row.add(standing);
            long h = 239;
            for (int v : row) {
                h = 31 * h + v;
            }
            return h;
        }
    }
}
