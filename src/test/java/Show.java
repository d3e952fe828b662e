import java.lang.reflect.Method;
import java.util.ArrayList;
import java.util.Arrays;
import java.util.List;
import java.util.Map;
import java.util.TreeMap;
import java.util.function.Supplier;

// No test of its own: what the tests of single sentences (the files *EdgesTest) have in common.
// A show under test is asked by the names of its calls. What it was asked is kept, so that twins of it
// can be made: two with the same past, of which one gets a call that is to change nothing.
final class Show {
    static final int NONE = -1, BAD = -2, NO = -3, FULL = -4, BAD_FAME = -1000, BAD_PLAN = -100000;
    static final int LOW = Integer.MIN_VALUE, HIGH = Integer.MAX_VALUE;
    private static final int MOST_CALLS = 512;
    private static final Map<String, Method> FACE = face();
    private static String sentence = "";
    private static int sentences = 0;
    private static int wrong = 0;

    private final WaxShow show = new WaxShow();
    private final List<Asked> past = new ArrayList<>();
    private final List<String> probed = new ArrayList<>();

    private record Asked(String call, int[] row) { }

    // ---- sentences

    /** What follows tests this sentence of the document. */
    static void sentence(String words) {
        sentence = words;
        sentences++;
    }

    static void due(String what, long got, long want) {
        if (got != want) {
            complain(what + " answered " + got + ", due is " + want);
        }
    }

    static void complain(String what) {
        wrong++;
        if (wrong <= 60) {
            System.out.println(sentence + " -- " + what);
        }
    }

    static void end() {
        System.out.println(wrong == 0 ? sentences + " sentences hold" : wrong + " answers are not as due");
        if (wrong != 0) {
            System.exit(1);
        }
    }

    // ---- one show

    /** A new show with so many figures, each of price 0. */
    static Show of(int figures) {
        Show s = new Show();
        for (int i = 0; i < figures; i++) {
            s.due(i, "figure", 0);
        }
        return s;
    }

    long ask(String call, int... row) {
        past.add(new Asked(call, row));
        if (past.size() > MOST_CALLS) {
            complain("more calls than the document promises answers for");
        }
        return answer(show, call, row);
    }

    void due(long want, String call, int... row) {
        due(text(call, row), ask(call, row), want);
    }

    /** The same call so many times, with the answer that is due each time. */
    void each(int times, long want, String call, int... row) {
        for (int i = 0; i < times; i++) {
            due(want, call, row);
        }
    }

    /** The call is answered as due, and a twin that got it can't be told from one that did not. */
    void refused(long want, String call, int... row) {
        due(text(call, row), answer(show, call, row), want);
        Show with = twin();
        Show without = twin();
        with.answerOnly(call, row);
        with.probe();
        without.probe();
        for (int i = 0; i < Math.min(with.probed.size(), without.probed.size()); i++) {
            if (!with.probed.get(i).equals(without.probed.get(i))) {
                complain(text(call, row) + " changed something: " + with.probed.get(i) + ", without it "
                        + without.probed.get(i));
                return;
            }
        }
        if (with.probed.size() != without.probed.size()) {
            complain(text(call, row) + " changed how many there are of something");
        }
    }

    /** A call that only tells something: it changes as little as one that is refused. */
    void tells(long want, String call, int... row) {
        refused(want, call, row);
    }

    /** Refused with the k-th number just below and just above its range, and far from it. */
    static void outside(Supplier<Show> fresh, long bad, int k, int low, int high, String call, int... row) {
        for (int v : new int[] {low - 1, high + 1, LOW, HIGH}) {
            int[] other = row.clone();
            other[k] = v;
            fresh.get().refused(bad, call, other);
        }
    }

    /** The first number is a figure's: one that is there answers so, one that is not is refused. */
    static void figureNumbers(long bad, long taken, String call, int... rest) {
        int[] row = new int[rest.length + 1];
        System.arraycopy(rest, 0, row, 1, rest.length);
        for (int figures : new int[] {0, 1, 2, 7, 8}) {
            outside(() -> of(figures), bad, 0, 0, figures - 1, call, row);
            for (int f = 0; f < figures; f++) {
                row[0] = f;
                of(figures).due(taken, call, row);
            }
        }
    }

    /** The first number is a set: all that are there are taken, one with a figure that is not is refused. */
    static void setNumbers(String call, int... rest) {
        int[] row = new int[rest.length + 1];
        System.arraycopy(rest, 0, row, 1, rest.length);
        for (int figures = 0; figures <= 8; figures++) {
            int all = (1 << figures) - 1;
            for (int set : new int[] {all + 1, all + 2, -1, LOW, LOW | 1, HIGH, 1 << 30, 1 << figures + 1}) {
                row[0] = set;
                of(figures).refused(BAD, call, row);
            }
            for (int set : new int[] {0, all}) {
                row[0] = set;
                Show s = of(figures);
                if (s.ask(call, row) == BAD) {
                    complain(text(call, row) + " of " + figures + " figures is refused");
                }
            }
        }
    }

    // ---- twins

    private Show twin() {
        Show t = new Show();
        for (Asked a : past) {
            t.ask(a.call(), a.row());
        }
        return t;
    }

    private void answerOnly(String call, int[] row) {
        answer(show, call, row);
    }

    private void probe(String call, int... row) {
        probed.add(text(call, row) + " answered " + ask(call, row));
    }

    /** Asks all that can be asked, then changes what shows the rest: coming, counts of pictures. */
    private void probe() {
        probe("digest");
        probePlansAndOrders();
        probeFigures();
        probeVisitors();
        int figures = (int) ask("count", 0);
        for (int f = 0; f < figures; f++) {
            for (int m = 0; m < 4; m++) {
                probe("picture", f, m, 0, 3000);
            }
        }
        probe("figure", 1);
        probe("likeness", 0, 1, 1, 1, 1);
        probe("digest");
    }

    private void probePlansAndOrders() {
        for (int w = 1; w <= 6; w += 5) {
            probe("plan", w);
            for (int week = 0; week < w; week++) {
                probe("shown", w, week);
            }
        }
        int figures = (int) ask("count", 0);
        for (int i = 0; i <= figures; i++) {
            probe("order", (1 << figures) - 1, i);
        }
        probe("made", (1 << figures) - 1);
        probe("made", (1 << figures) - 1 & 0x55);
    }

    private void probeFigures() {
        int figures = (int) ask("count", 0);
        probe("due");
        probe("tell", 0, 0, 0, 0);
        probe("tell", 3000, 3000, 3000, 3000);
        probe("tell", 700, 1400, 2100, 2800);
        for (int f = 0; f < figures; f++) {
            probe("known", f);
            for (int m = 0; m < 4; m++) {
                probe("wrong", f, m);
            }
        }
    }

    /** In rooms that hold all for a minute each, a visitor is out 3 minutes behind its coming. */
    private void probeVisitors() {
        int visitors = (int) ask("count", 2);
        for (int room = 0; room <= 3; room++) {
            probe("most", room);
        }
        for (int v = 0; v < visitors; v += 3) {
            probe("out", v);
        }
        for (int room = 0; room < 3; room++) {
            probe("room", room, 100, 1);
        }
        for (int v = 0; v < visitors; v++) {
            probe("out", v);
        }
        probe("empty");
        probe("come", 0, 1);
    }

    // ---- the face by names

    private static Map<String, Method> face() {
        Map<String, Method> face = new TreeMap<>();
        for (Method m : WaxShow.class.getMethods()) {
            if (m.getDeclaringClass() == WaxShow.class) {
                face.put(m.getName(), m);
            }
        }
        return face;
    }

    private static long answer(WaxShow show, String call, int[] row) {
        Object[] numbers = new Object[row.length];
        for (int i = 0; i < row.length; i++) {
            numbers[i] = row[i];
        }
        try {
            return ((Number) FACE.get(call).invoke(show, numbers)).longValue();
        } catch (ReflectiveOperationException e) {
            throw new IllegalStateException(text(call, row), e);
        }
    }

    private static String text(String call, int[] row) {
        String numbers = Arrays.toString(row);
        return call + "(" + numbers.substring(1, numbers.length() - 1) + ")";
    }
}
