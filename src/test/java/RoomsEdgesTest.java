import java.util.function.Supplier;

// Promises 15 to 19: each sentence that names an edge, by itself. Show.java tells how.
public final class RoomsEdgesTest {
    private static final int NONE = Show.NONE, BAD = Show.BAD, NO = Show.NO, FULL = Show.FULL;

    public static void main(String[] args) {
        roomsAtFirst();
        room();
        comeNumbers();
        comeAhead();
        comeFull();
        comeRefusedInTwoWays();
        empty();
        out();
        outOfRooms();
        outNever();
        most();
        mostAtTheEnd();
        Show.end();
    }

    /** A show with these groups of visitors: minute, how many; minute, how many .. */
    private static Show withVisitors(int... groups) {
        Show s = new Show();
        int visitors = 0;
        for (int i = 0; i + 1 < groups.length; i += 2) {
            visitors += groups[i + 1];
            s.due(visitors, "come", groups[i], groups[i + 1]);
        }
        return s;
    }

    private static void rooms(Show s, int... holdsAndMinutes) {
        for (int room = 0; room <= 2; room++) {
            s.due(1, "room", room, holdsAndMinutes[2 * room], holdsAndMinutes[2 * room + 1]);
        }
    }

    // ---- Promise 15

    private static void roomsAtFirst() {
        Show.sentence("15: ROOMS hold 10 at first");
        for (int room = 0; room <= 2; room++) {
            for (int n = 10; n <= 11; n++) {
                Show s = withVisitors(0, n);
                for (int other = 0; other <= 2; other++) {
                    if (other != room) {
                        s.due(1, "room", other, 40, 5);
                    }
                }
                s.tells(10, "most", room);
                s.tells(15, "out", 9);
                s.tells(n == 10 ? BAD : 20, "out", 10);
            }
        }

        Show.sentence("15: a visitor looks 5 minutes in each at first");
        for (int room = 0; room <= 2; room++) {
            Show s = withVisitors(0, 1);
            for (int other = 0; other <= 2; other++) {
                if (other != room) {
                    s.due(1, "room", other, 10, 1);
                }
            }
            s.tells(7, "out", 0);
        }
    }

    private static void room() {
        Show.sentence("15: ROOMS 0 .. 2");
        for (int room = 0; room <= 2; room++) {
            Show s = withVisitors(0, 3);
            s.due(1, "room", room, 1, 7);
            s.tells(17, "out", 0);
            s.tells(31, "out", 2);
            s.tells(1, "most", room);
        }
        Show.outside(() -> withVisitors(0, 3), BAD, 0, 0, 2, "room", 0, 10, 5);
        Show.outside(Show::new, BAD, 0, 0, 2, "room", 0, 0, 1);

        Show.sentence("15: hold so many (0 .. 100)");
        Show s = withVisitors(0, 20, 0, 20);
        for (int room = 0; room <= 2; room++) {
            s.due(1, "room", room, 0, 5);
            s.due(NONE, "out", 0);
            s.due(1, "room", room, 1, 5);
            s.due(1, "room", room, 100, 5);
        }
        s.due(40, "most", 0);
        s.due(15, "out", 39);
        Show.outside(() -> withVisitors(0, 20), BAD, 1, 0, 100, "room", 1, 10, 5);
        Show.outside(Show::new, BAD, 1, 0, 100, "room", 2, 10, 5);

        Show.sentence("15: so many minutes in each (1 .. 30)");
        for (int room = 0; room <= 2; room++) {
            Show t = withVisitors(0, 1);
            t.due(1, "room", room, 10, 1);
            t.due(11, "out", 0);
            t.due(1, "room", room, 10, 30);
            t.due(40, "out", 0);
        }
        Show.outside(() -> withVisitors(0, 20), BAD, 2, 1, 30, "room", 1, 10, 5);
        Show.outside(Show::new, BAD, 2, 1, 30, "room", 2, 10, 5);

        Show.sentence("15: BAD changes nothing: neither hold nor minutes");
        Show u = withVisitors(0, 12);
        rooms(u, 5, 6, 4, 7, 3, 8);
        for (int[] row : new int[][] {{0, 101, 9}, {0, 9, 31}, {1, -1, 9}, {1, 9, 0}, {2, 9, 31}, {3, 9, 9}}) {
            u.refused(BAD, "room", row);
        }
    }

    // ---- Promise 16

    private static void comeNumbers() {
        Show.sentence("16: n VISITORS (1 .. 20): how many there are");
        withVisitors(0, 1).tells(1, "count", 2);
        withVisitors(0, 20).tells(20, "count", 2);
        Show.outside(Show::new, BAD, 1, 1, 20, "come", 0, 1);
        Show.outside(() -> withVisitors(3, 20), BAD, 1, 1, 20, "come", 3, 1);

        Show.sentence("16: at a MINUTE (0 .. 600)");
        Show s = withVisitors(0, 1, 600, 1, 600, 1);
        s.due(15, "out", 0);
        s.due(615, "out", 1);
        s.due(615, "out", 2);
        Show.outside(Show::new, BAD, 0, 0, 600, "come", 0, 1);
        Show.outside(() -> withVisitors(3, 20), BAD, 0, 0, 600, "come", 3, 1);
        Show.outside(() -> withVisitors(600, 20), BAD, 0, 0, 600, "come", 600, 20);
    }

    private static void comeAhead() {
        Show.sentence("16: NO: ahead of the last one, be it by one MINUTE");
        for (int last : new int[] {1, 2, 300, 600}) {
            withVisitors(last, 1).refused(NO, "come", last - 1, 1);
            withVisitors(last, 1).refused(NO, "come", 0, 1);
            withVisitors(0, 1, last, 1).refused(NO, "come", last - 1, 20);
            withVisitors(last, 1).due(2, "come", last, 1);
            withVisitors(last, 20).due(40, "come", last, 20);
        }

        Show.sentence("16: a MINUTE, which is not below that of the one ahead: none ahead, MINUTE 0");
        new Show().due(1, "come", 0, 1);
        withVisitors(0, 1).due(2, "come", 0, 1);

        Show.sentence("16: a group that is refused is not one ahead");
        Show s = withVisitors(10, 20, 10, 1);
        s.refused(FULL, "come", 500, 20);
        s.refused(BAD, "come", 601, 1);
        s.refused(BAD, "come", 500, 0);
        s.refused(NO, "come", 9, 1);
        s.due(22, "come", 10, 1);
        s.due(25, "out", 9);
    }

    private static void comeFull() {
        Show.sentence("16: VISITORS (40 at most), FULL: above 40");
        withVisitors(0, 20).due(40, "come", 0, 20);
        withVisitors(0, 20, 1, 19).due(40, "come", 1, 1);
        withVisitors(0, 20, 1, 1).due(40, "come", 1, 19);
        withVisitors(0, 20, 1, 1).refused(FULL, "come", 1, 20);
        withVisitors(0, 20, 1, 19).refused(FULL, "come", 1, 2);
        withVisitors(0, 20, 1, 19).refused(FULL, "come", 600, 20);
        withVisitors(0, 20, 1, 20).refused(FULL, "come", 1, 1);
        withVisitors(0, 20, 1, 20).refused(FULL, "come", 600, 20);

        Show.sentence("16: FULL: not even some of a group come");
        Show s = withVisitors(0, 20, 1, 15);
        s.refused(FULL, "come", 1, 6);
        s.due(35, "count", 2);
        s.due(BAD, "out", 35);
        s.due(40, "come", 1, 5);

        Show.sentence("16: forty that come one by one");
        Show t = new Show();
        for (int v = 1; v <= 40; v++) {
            t.due(v, "come", 15 * v, 1);
        }
        t.refused(FULL, "come", 600, 1);
        t.due(615, "out", 39);
    }

    private static void comeRefusedInTwoWays() {
        Show.sentence("16: BAD ahead of NO");
        withVisitors(9, 1).refused(BAD, "come", 8, 0);
        withVisitors(9, 1).refused(BAD, "come", 8, 21);
        withVisitors(9, 1).refused(BAD, "come", -1, 1);

        Show.sentence("16: NO ahead of FULL");
        withVisitors(9, 20, 9, 20).refused(NO, "come", 8, 1);
        withVisitors(9, 20, 9, 1).refused(NO, "come", 8, 20);

        Show.sentence("16: BAD ahead of FULL");
        withVisitors(9, 20, 9, 20).refused(BAD, "come", 9, 21);
        withVisitors(9, 20, 9, 20).refused(BAD, "come", 9, 0);
        withVisitors(9, 20, 9, 20).refused(BAD, "come", 601, 1);

        Show.sentence("16: BAD ahead of NO and FULL");
        withVisitors(9, 20, 9, 20).refused(BAD, "come", 8, 0);
        withVisitors(9, 20, 9, 20).refused(BAD, "come", -1, 1);
    }

    // ---- Promise 17

    private static void empty() {
        Show.sentence("17: all VISITORS go: how many: none, one, 40");
        new Show().due(0, "empty");
        withVisitors(0, 1).due(1, "empty");
        withVisitors(0, 20, 600, 20).due(40, "empty");

        Show.sentence("17: of none it changes nothing");
        new Show().tells(0, "empty");

        Show.sentence("17: all go: none are there then");
        Show s = withVisitors(0, 20, 600, 20);
        s.due(40, "empty");
        s.due(0, "count", 2);
        s.due(0, "empty");
        s.refused(BAD, "out", 0);
        s.refused(BAD, "out", 39);
        for (int room = 0; room <= 3; room++) {
            s.due(0, "most", room);
        }

        Show.sentence("17: all go: 40 fit again, from MINUTE 0 on, for there is no last one");
        s.due(20, "come", 0, 20);
        s.due(40, "come", 0, 20);
        s.refused(FULL, "come", 0, 1);
        s.due(15, "out", 9);
        Show t = withVisitors(600, 1);
        t.refused(NO, "come", 599, 1);
        t.due(1, "empty");
        t.due(1, "come", 599, 1);
        t.refused(NO, "come", 598, 1);

        Show.sentence("17: ROOMS stay as they are");
        Show u = withVisitors(0, 3);
        rooms(u, 1, 2, 3, 4, 5, 6);
        u.due(3, "empty");
        u.due(3, "come", 7, 3);
        u.due(19, "out", 0);
        u.due(23, "out", 2);
    }

    // ---- Promise 18

    private static void visitorNumbers(int visitors, Supplier<Show> fresh) {
        Show.outside(fresh, BAD, 0, 0, visitors - 1, "out", 0);
        for (int v = 0; v < visitors; v++) {
            if (fresh.get().ask("out", v) == BAD) {
                Show.complain("out(" + v + ") of " + visitors + " is refused");
            }
        }
    }

    private static void out() {
        Show.sentence("18: BAD: a VISITOR that is not there: none, one, 20, 40");
        visitorNumbers(0, Show::new);
        visitorNumbers(1, () -> withVisitors(0, 1));
        visitorNumbers(20, () -> withVisitors(600, 20));
        visitorNumbers(40, () -> withVisitors(0, 20, 600, 20));

        Show.sentence("18: VISITORS, numbered as they come: those who came first ahead");
        Show s = withVisitors(0, 1, 0, 2, 1, 1);
        rooms(s, 1, 10, 1, 10, 1, 10);
        for (int v = 0; v <= 3; v++) {
            s.tells(30 + 10 * v, "out", v);
        }

        Show.sentence("18: the first MINUTE there can be");
        Show first = withVisitors(0, 20, 0, 20);
        rooms(first, 40, 1, 40, 1, 40, 1);
        first.tells(3, "out", 0);
        first.tells(3, "out", 39);

        Show.sentence("18: the last MINUTE there can be");
        Show last = withVisitors(600, 20, 600, 20);
        rooms(last, 1, 30, 1, 30, 1, 30);
        last.tells(690, "out", 0);
        last.tells(1860, "out", 39);

        Show.sentence("18: has looked at m and the minutes of that ROOM");
        for (int room = 0; room <= 2; room++) {
            for (int minutes = 1; minutes <= 30; minutes++) {
                Show t = withVisitors(9, 1);
                t.due(1, "room", room, 1, minutes);
                t.due(19 + minutes, "out", 0);
            }
        }

        Show.sentence("18: by ROOMS as they are now");
        Show now = withVisitors(0, 2);
        now.due(15, "out", 1);
        now.due(1, "room", 1, 1, 5);
        now.due(20, "out", 1);
        now.due(1, "room", 1, 2, 5);
        now.due(15, "out", 1);
        now.due(1, "room", 1, 2, 6);
        now.due(16, "out", 1);
    }

    private static void outOfRooms() {
        Show.sentence("18: into a ROOM as there is room");
        for (int room = 0; room <= 2; room++) {
            for (int hold = 1; hold <= 8; hold++) {
                Show s = withVisitors(0, 8);
                s.due(1, "room", room, hold, 10);
                for (int v = 0; v < 8; v++) {
                    s.due(20 + v / hold * 10, "out", v);
                }
            }
        }

        Show.sentence("18: when one has looked it waits in its ROOM till there is room in the next one");
        Show s = withVisitors(0, 4);
        rooms(s, 2, 1, 1, 10, 40, 1);
        for (int v = 0; v < 4; v++) {
            s.due(12 + 10 * v, "out", v);
        }
        // while it waits it keeps others out: 2 comes into ROOM 0 in MINUTE 1, and 3 in MINUTE 11
        s.due(1, "room", 1, 2, 10);
        int[] due = {12, 12, 22, 22};
        for (int v = 0; v < 4; v++) {
            s.due(due[v], "out", v);
        }
        s.due(1, "room", 0, 1, 1);
        int[] slower = {12, 13, 22, 23};
        for (int v = 0; v < 4; v++) {
            s.due(slower[v], "out", v);
        }

        Show.sentence("18: ROOM 2 first, then 1, 0, then from outside: a place is taken as it is left");
        Show t = withVisitors(0, 4);
        rooms(t, 1, 1, 1, 1, 1, 1);
        for (int v = 0; v < 4; v++) {
            t.due(3 + v, "out", v);
        }
        t.due(1, "most", 0);

        Show.sentence("18: behind ROOM 2 it is out: there is room for all");
        Show u = withVisitors(0, 20, 0, 20);
        rooms(u, 100, 2, 100, 3, 100, 4);
        for (int v = 0; v < 40; v++) {
            u.due(9, "out", v);
        }
    }

    private static void outNever() {
        Show.sentence("18: NONE: not up to MINUTE 5000: a ROOM that holds none");
        for (int room = 0; room <= 2; room++) {
            Show s = withVisitors(0, 2, 600, 1);
            s.due(1, "room", room, 0, 1);
            for (int v = 0; v <= 2; v++) {
                s.tells(NONE, "out", v);
            }
            s.due(1, "room", room, 1, 1);
            s.tells(11, "out", 0);
            s.tells(611, "out", 2);
        }
        Show all = withVisitors(0, 20, 0, 20);
        rooms(all, 0, 30, 0, 30, 0, 30);
        all.tells(NONE, "out", 0);
        all.tells(NONE, "out", 39);

        Show.sentence("18: BAD ahead of NONE");
        Show shut = withVisitors(0, 2);
        rooms(shut, 0, 1, 0, 1, 0, 1);
        shut.refused(BAD, "out", -1);
        shut.refused(BAD, "out", 2);
        shut.refused(BAD, "out", Show.HIGH);
        shut.due(NONE, "out", 1);
    }

    // ---- Promise 19

    private static void most() {
        Show.sentence("19: ROOMS 0 .. 2 and ROOM 3: waiting outside");
        Show.outside(Show::new, BAD, 0, 0, 3, "most", 0);
        Show.outside(() -> withVisitors(0, 20), BAD, 0, 0, 3, "most", 0);

        Show.sentence("19: no VISITORS: none in any ROOM");
        for (int room = 0; room <= 3; room++) {
            new Show().tells(0, "most", room);
        }

        Show.sentence("19: one VISITOR: one in each ROOM, none outside");
        for (int room = 0; room <= 3; room++) {
            withVisitors(600, 1).tells(room == 3 ? 0 : 1, "most", room);
        }

        Show.sentence("19: the most in a ROOM: what it holds, and no more than come");
        for (int hold : new int[] {0, 1, 2, 39, 40, 41, 100}) {
            int in = Math.min(hold, 40);
            Show s = withVisitors(0, 20, 0, 20);
            s.due(1, "room", 0, hold, 5);
            s.tells(in, "most", 0);
            s.tells(40 - in, "most", 3);
            for (int room = 1; room <= 2; room++) {
                Show t = withVisitors(0, 20, 0, 20);
                rooms(t, 100, 5, 100, 5, 100, 5);
                t.due(1, "room", room, hold, 5);
                t.tells(in, "most", room);
                t.tells(0, "most", 3);
                t.tells(40, "most", 0);
            }
        }

        Show.sentence("19: ROOMS that hold none: those ahead of them fill");
        Show s = withVisitors(0, 20, 0, 20);
        rooms(s, 3, 1, 4, 1, 0, 1);
        int[] most = {3, 4, 0, 37};
        for (int room = 0; room <= 3; room++) {
            s.tells(most[room], "most", room);
        }
        s.due(1, "room", 1, 0, 1);
        int[] fewer = {3, 0, 0, 37};
        for (int room = 0; room <= 3; room++) {
            s.tells(fewer[room], "most", room);
        }
        s.due(1, "room", 0, 0, 1);
        int[] none = {0, 0, 0, 40};
        for (int room = 0; room <= 3; room++) {
            s.tells(none[room], "most", room);
        }
    }

    private static void mostAtTheEnd() {
        Show.sentence("19: at the end of a MINUTE: one that goes on as another one comes is not there");
        for (int second = 4; second <= 6; second++) {
            Show s = withVisitors(0, 1, second, 1);
            for (int room = 0; room <= 2; room++) {
                s.tells(second < 5 ? 2 : 1, "most", room);
            }
            s.tells(0, "most", 3);
        }

        Show.sentence("19: outside at the end of a MINUTE: one that comes in at once is not there");
        withVisitors(0, 10).tells(0, "most", 3);
        withVisitors(0, 11).tells(1, "most", 3);
        withVisitors(0, 10, 5, 10).tells(0, "most", 3);
        withVisitors(0, 10, 4, 10).tells(10, "most", 3);

        Show.sentence("19: of any MINUTE: those still outside and those who come");
        int[][] rows = {{0, 39}, {1, 38}, {18, 21}, {19, 20}, {20, 19}, {600, 19}};
        for (int[] row : rows) {
            // one comes in each minute; the first 20 are in by minute 19
            Show s = withVisitors(0, 20, row[0], 20);
            s.due(1, "room", 0, 1, 1);
            s.tells(row[1], "most", 3);
        }

        Show.sentence("19: of any MINUTE: the last ones may be the most");
        Show s = withVisitors(0, 1, 599, 2, 600, 3);
        s.tells(5, "most", 0);
        s.tells(5, "most", 2);
        s.due(1, "room", 2, 4, 30);
        s.tells(4, "most", 2);
        s.tells(5, "most", 1);
    }
}
