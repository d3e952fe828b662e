// Each promise of the document by hand: ordinary inputs, the edges it names, and wrong inputs.
public final class PromisesTest {
    private static final int NONE = -1, BAD = -2, NO = -3, FULL = -4;
    private static final int LOW = Integer.MIN_VALUE, HIGH = Integer.MAX_VALUE;
    private static int wrong = 0;
    private static String promise = "";

    private static void due(String call, long got, long want) {
        if (got != want) {
            wrong++;
            System.out.println(promise + ": " + call + " answered " + got + ", due is " + want);
        }
    }

    private static WaxShow withFigures(int n) {
        WaxShow x = new WaxShow();
        for (int i = 0; i < n; i++) {
            x.figure(0);
        }
        return x;
    }

    public static void main(String[] args) {
        constants();
        newObject();
        figure();
        fame();
        rights();
        places();
        standing();
        planWorth();
        planTies();
        shown();
        picture();
        span();
        wrongPicture();
        days();
        made();
        order();
        room();
        come();
        empty();
        out();
        outOfOneMinute();
        most();
        heat();
        touch();
        repair();
        dueSet();
        tell();
        likeness();
        known();
        about();
        count();
        digest();
        System.out.println(wrong == 0 ? "all answers are as due" : wrong + " answers are not as due");
        if (wrong != 0) {
            System.exit(1);
        }
    }

    private static void constants() {
        promise = "face";
        due("NONE", WaxShow.NONE, -1);
        due("BAD", WaxShow.BAD, -2);
        due("NO", WaxShow.NO, -3);
        due("FULL", WaxShow.FULL, -4);
    }

    private static void newObject() {
        promise = "1 a new object";
        WaxShow x = new WaxShow();
        due("count(0)", x.count(0), 0);
        due("count(1)", x.count(1), 3);
        due("count(2)", x.count(2), 0);
        due("count(3)", x.count(3), 0);
        due("count(4)", x.count(4), 0);
        due("plan(6)", x.plan(6), 0);
        due("due()", x.due(), 0);
        due("most(3)", x.most(3), 0);
        due("tell", x.tell(0, 0, 0, 0), NONE);
        due("standing(0)", x.standing(0), 0);
        x.figure(7);
        int[] first = {7, 0, 5, 1000, 0, 0};
        for (int i = 0; i < 6; i++) {
            due("about(0, " + i + ")", x.about(0, i), first[i]);
        }
        for (int week = 0; week < 6; week++) {
            due("fame(0, " + week + ", 0)", x.fame(0, week, 0), 0);
        }
        for (int m = 0; m < 4; m++) {
            due("span(0, " + m + ", 0)", x.span(0, m, 0), 0);
            due("span(0, " + m + ", 1)", x.span(0, m, 1), 3000);
            due("wrong(0, " + m + ")", x.wrong(0, m), NONE);
            due("days(0, " + m + ", 0)", x.days(0, m, 0), 0);
        }
        // rooms hold 10 for 5 minutes: the 11th waits for 5 minutes outside
        x.come(0, 11);
        due("most(0)", x.most(0), 10);
        due("most(3)", x.most(3), 1);
        due("out(9)", x.out(9), 15);
        due("out(10)", x.out(10), 20);
        // two objects have nothing in common
        due("count(0) of another", new WaxShow().count(0), 0);
    }

    private static void figure() {
        promise = "2 figure";
        WaxShow x = new WaxShow();
        due("figure(-1)", x.figure(-1), BAD);
        due("figure(201)", x.figure(201), BAD);
        due("figure(LOW)", x.figure(LOW), BAD);
        due("figure(HIGH)", x.figure(HIGH), BAD);
        due("count(0) after BAD", x.count(0), 0);
        due("figure(0)", x.figure(0), 0);
        due("figure(200)", x.figure(200), 1);
        for (int i = 2; i < 8; i++) {
            due("figure(" + i + ")", x.figure(i), i);
        }
        due("figure(0), the ninth", x.figure(0), FULL);
        due("figure(201), the ninth", x.figure(201), BAD);
        due("count(0)", x.count(0), 8);
        due("about(1, 0)", x.about(1, 0), 200);
        due("about(7, 0)", x.about(7, 0), 7);
    }

    private static void fame() {
        promise = "3 fame";
        WaxShow x = withFigures(2);
        due("fame(0, 0, 100)", x.fame(0, 0, 100), 0);
        due("fame(0, 0, -100)", x.fame(0, 0, -100), 100);
        due("fame(0, 5, 7)", x.fame(0, 5, 7), 0);
        due("fame(1, 0, 3)", x.fame(1, 0, 3), 0);
        due("fame(0, 0, 101)", x.fame(0, 0, 101), -1000);
        due("fame(0, 0, -101)", x.fame(0, 0, -101), -1000);
        due("fame(0, 6, 0)", x.fame(0, 6, 0), -1000);
        due("fame(0, -1, 0)", x.fame(0, -1, 0), -1000);
        due("fame(2, 0, 0)", x.fame(2, 0, 0), -1000);
        due("fame(-1, 0, 0)", x.fame(-1, 0, 0), -1000);
        due("fame(0, 0, HIGH)", x.fame(0, 0, HIGH), -1000);
        due("fame(0, 0, LOW)", x.fame(0, 0, LOW), -1000);
        due("fame(0, 0, 1)", x.fame(0, 0, 1), -100);
        due("fame(0, 5, 1)", x.fame(0, 5, 1), 7);
        due("fame(1, 0, 1)", x.fame(1, 0, 1), 3);
    }

    private static void rights() {
        promise = "4 rights";
        WaxShow x = withFigures(2);
        due("rights(0, 2, 4)", x.rights(0, 2, 4), 1);
        due("about(0, 1)", x.about(0, 1), 2);
        due("about(0, 2)", x.about(0, 2), 4);
        due("about(1, 1)", x.about(1, 1), 0);
        due("about(1, 2)", x.about(1, 2), 5);
        due("rights(0, 3, 2)", x.rights(0, 3, 2), BAD);
        due("rights(0, -1, 2)", x.rights(0, -1, 2), BAD);
        due("rights(0, 0, 6)", x.rights(0, 0, 6), BAD);
        due("rights(0, 6, 6)", x.rights(0, 6, 6), BAD);
        due("rights(2, 0, 5)", x.rights(2, 0, 5), BAD);
        due("rights(-1, 0, 5)", x.rights(-1, 0, 5), BAD);
        due("about(0, 1) after BAD", x.about(0, 1), 2);
        due("about(0, 2) after BAD", x.about(0, 2), 4);
        due("rights(0, 5, 5)", x.rights(0, 5, 5), 1);
        due("about(0, 1)", x.about(0, 1), 5);
        due("rights(0, 0, 5)", x.rights(0, 0, 5), 1);
        due("about(0, 1)", x.about(0, 1), 0);
        due("about(0, 2)", x.about(0, 2), 5);
        // both ends of the rights are weeks in which it may be shown
        for (int week = 0; week < 6; week++) {
            x.fame(0, week, 10);
        }
        x.rights(0, 1, 3);
        due("plan(6)", x.plan(6), 30);
        int[] sets = {0, 1, 1, 1, 0, 0};
        for (int week = 0; week < 6; week++) {
            due("shown(6, " + week + ")", x.shown(6, week), sets[week]);
        }
    }

    private static void places() {
        promise = "5 places";
        WaxShow x = withFigures(8);
        due("places(5)", x.places(5), 3);
        due("places(1)", x.places(1), 5);
        due("places(0)", x.places(0), BAD);
        due("places(6)", x.places(6), BAD);
        due("places(LOW)", x.places(LOW), BAD);
        due("places(HIGH)", x.places(HIGH), BAD);
        due("places(2)", x.places(2), 1);
        due("count(1)", x.count(1), 2);
        for (int i = 0; i < 8; i++) {
            x.fame(i, 0, 10 + i);
        }
        for (int n = 1, worth = 0; n <= 5; n++) {
            x.places(n);
            worth += 18 - n;
            due("plan(1) with places " + n, x.plan(1), worth);
            due("shown(1, 0) with places " + n, x.shown(1, 0), 256 - (1 << 8 - n));
        }
    }

    private static void standing() {
        promise = "6 standing";
        WaxShow x = new WaxShow();
        due("standing(0) of none", x.standing(0), 0);
        due("standing(1) of none", x.standing(1), BAD);
        x.figure(50);
        x.figure(50);
        due("standing(3)", x.standing(3), 0);
        due("standing(4)", x.standing(4), BAD);
        due("standing(7)", x.standing(7), BAD);
        due("standing(-1)", x.standing(-1), BAD);
        due("standing(LOW)", x.standing(LOW), BAD);
        due("standing(HIGH)", x.standing(HIGH), BAD);
        due("standing(2)", x.standing(2), 3);
        x.fame(0, 0, 40);
        x.fame(1, 0, 40);
        due("plan(1)", x.plan(1), 40);
        due("shown(1, 0)", x.shown(1, 0), 2);
        due("standing(2) after a plan", x.standing(2), 2);
        // more may stand than there are places
        WaxShow y = withFigures(8);
        due("standing(255)", y.standing(255), 0);
        due("standing(256)", y.standing(256), BAD);
        due("standing(0)", y.standing(0), 255);
    }

    private static void planWorth() {
        promise = "7 plan";
        WaxShow x = new WaxShow();
        due("plan(0)", x.plan(0), -100000);
        due("plan(7)", x.plan(7), -100000);
        due("plan(-1)", x.plan(-1), -100000);
        due("plan(LOW)", x.plan(LOW), -100000);
        due("plan(HIGH)", x.plan(HIGH), -100000);
        due("plan(1) of none", x.plan(1), 0);
        x.figure(100);
        int[] fame = {60, 60, -30, 60, 60, 0};
        for (int week = 0; week < 6; week++) {
            x.fame(0, week, fame[week]);
        }
        due("plan(1)", x.plan(1), 0);
        due("plan(2)", x.plan(2), 20);
        due("plan(3)", x.plan(3), 20);
        // it is worth more to go on with it through week 2 than to make it anew in week 3
        due("plan(4)", x.plan(4), 50);
        due("plan(5)", x.plan(5), 110);
        due("shown(5, 2)", x.shown(5, 2), 1);
        // without rights in week 2 it is paid for a second time
        x.figure(0);
        x.rights(0, 3, 5);
        due("plan(5), rights from 3", x.plan(5), 20);
        x.rights(0, 0, 5);
        x.fame(0, 2, -100);
        due("plan(5), dear week 2", x.plan(5), 40);
        due("shown(5, 2), dear week 2", x.shown(5, 2), 0);
        due("shown(5, 3), dear week 2", x.shown(5, 3), 1);
        x.standing(1);
        due("plan(5), standing", x.plan(5), 140);
        x.standing(2);
        due("plan(5), another standing", x.plan(5), 40);
    }

    private static void planTies() {
        promise = "7 plan, of like ones";
        WaxShow x = withFigures(4);
        due("plan(6)", x.plan(6), 0);
        due("shown(6, 0)", x.shown(6, 0), 0);
        for (int i = 0; i < 4; i++) {
            x.fame(i, 1, 5);
        }
        x.places(2);
        due("plan(3)", x.plan(3), 10);
        due("shown(3, 0)", x.shown(3, 0), 0);
        due("shown(3, 1)", x.shown(3, 1), 3);
        due("shown(3, 2)", x.shown(3, 2), 0);
        // week 0 decides ahead of week 1: price paid late is as dear as price paid soon
        WaxShow y = new WaxShow();
        y.figure(10);
        y.figure(10);
        y.places(1);
        y.fame(0, 1, 15);
        y.fame(1, 1, 15);
        due("plan(2)", y.plan(2), 5);
        due("shown(2, 0)", y.shown(2, 0), 0);
        due("shown(2, 1)", y.shown(2, 1), 1);
        y.standing(2);
        due("plan(2), 1 standing", y.plan(2), 15);
        due("shown(2, 0), 1 standing", y.shown(2, 0), 2);
        due("shown(2, 1), 1 standing", y.shown(2, 1), 2);
    }

    private static void shown() {
        promise = "8 shown";
        WaxShow x = withFigures(2);
        x.fame(0, 0, 1);
        x.fame(1, 5, 1);
        due("shown(6, 0)", x.shown(6, 0), 1);
        due("shown(6, 4)", x.shown(6, 4), 0);
        due("shown(6, 5)", x.shown(6, 5), 2);
        due("shown(1, 0)", x.shown(1, 0), 1);
        due("shown(1, 1)", x.shown(1, 1), BAD);
        due("shown(6, 6)", x.shown(6, 6), BAD);
        due("shown(5, 5)", x.shown(5, 5), BAD);
        due("shown(6, -1)", x.shown(6, -1), BAD);
        due("shown(0, 0)", x.shown(0, 0), BAD);
        due("shown(7, 0)", x.shown(7, 0), BAD);
        due("shown(LOW, 0)", x.shown(LOW, 0), BAD);
        due("shown(HIGH, HIGH)", x.shown(HIGH, HIGH), BAD);
        // the plan for fewer weeks is another one
        WaxShow y = new WaxShow();
        y.figure(10);
        y.fame(0, 0, 5);
        y.fame(0, 1, 6);
        due("shown(1, 0)", y.shown(1, 0), 0);
        due("shown(2, 0)", y.shown(2, 0), 1);
        due("shown(1, 0) again", y.shown(1, 0), 0);
    }

    private static void picture() {
        promise = "9 picture";
        WaxShow x = withFigures(2);
        due("picture(0, 0, 0, 3000)", x.picture(0, 0, 0, 3000), 1);
        due("picture(0, 0, 5, 5)", x.picture(0, 0, 5, 5), 2);
        due("picture(0, 1, 0, 0)", x.picture(0, 1, 0, 0), 1);
        due("picture(1, 0, 3000, 3000)", x.picture(1, 0, 3000, 3000), 1);
        due("picture(0, 0, 5, 4)", x.picture(0, 0, 5, 4), BAD);
        due("picture(0, 0, -1, 4)", x.picture(0, 0, -1, 4), BAD);
        due("picture(0, 0, 0, 3001)", x.picture(0, 0, 0, 3001), BAD);
        due("picture(0, 0, 3001, 3001)", x.picture(0, 0, 3001, 3001), BAD);
        due("picture(0, 4, 0, 1)", x.picture(0, 4, 0, 1), BAD);
        due("picture(0, -1, 0, 1)", x.picture(0, -1, 0, 1), BAD);
        due("picture(2, 0, 0, 1)", x.picture(2, 0, 0, 1), BAD);
        due("picture(-1, 0, 0, 1)", x.picture(-1, 0, 0, 1), BAD);
        // those with which it does not agree count, too; those refused do not
        for (int i = 3; i <= 12; i++) {
            due("picture(0, 0, 9, 9)", x.picture(0, 0, 9, 9), i);
        }
        due("picture(0, 0, 9, 9), the 13th", x.picture(0, 0, 9, 9), FULL);
        due("picture(0, 0, 9, 8), the 13th", x.picture(0, 0, 9, 8), BAD);
        due("picture(0, 1, 0, 0)", x.picture(0, 1, 0, 0), 2);
        due("picture(1, 0, 0, 0)", x.picture(1, 0, 0, 0), 2);
        // a picture that is refused as full changes nothing
        WaxShow y = withFigures(1);
        for (int i = 1; i <= 12; i++) {
            due("picture(0, 2, 10, 20)", y.picture(0, 2, 10, 20), i);
        }
        due("picture(0, 2, 15, 15), full", y.picture(0, 2, 15, 15), FULL);
        due("span(0, 2, 0)", y.span(0, 2, 0), 10);
        due("span(0, 2, 1)", y.span(0, 2, 1), 20);
    }

    private static void span() {
        promise = "10 span";
        WaxShow x = withFigures(2);
        due("span(0, 3, 0)", x.span(0, 3, 0), 0);
        due("span(0, 3, 1)", x.span(0, 3, 1), 3000);
        x.picture(0, 3, 100, 500);
        x.picture(0, 3, 50, 400);
        due("span(0, 3, 0)", x.span(0, 3, 0), 100);
        due("span(0, 3, 1)", x.span(0, 3, 1), 400);
        x.picture(0, 3, 400, 900);
        due("span(0, 3, 0), one number", x.span(0, 3, 0), 400);
        due("span(0, 3, 1), one number", x.span(0, 3, 1), 400);
        x.picture(0, 3, 0, 399);
        due("span(0, 3, 0), nothing", x.span(0, 3, 0), NONE);
        due("span(0, 3, 1), nothing", x.span(0, 3, 1), NONE);
        x.picture(0, 3, 0, 3000);
        due("span(0, 3, 0), still nothing", x.span(0, 3, 0), NONE);
        due("span(0, 2, 1)", x.span(0, 2, 1), 3000);
        due("span(1, 3, 1)", x.span(1, 3, 1), 3000);
        due("span(0, 3, 2)", x.span(0, 3, 2), BAD);
        due("span(0, 3, -1)", x.span(0, 3, -1), BAD);
        due("span(0, 4, 0)", x.span(0, 4, 0), BAD);
        due("span(0, -1, 0)", x.span(0, -1, 0), BAD);
        due("span(2, 0, 0)", x.span(2, 0, 0), BAD);
        due("span(LOW, HIGH, HIGH)", x.span(LOW, HIGH, HIGH), BAD);
    }

    private static void wrongPicture() {
        promise = "11 wrong";
        WaxShow x = withFigures(2);
        due("wrong(0, 0)", x.wrong(0, 0), NONE);
        x.picture(0, 0, 10, 20);
        x.picture(0, 0, 20, 30);
        due("wrong(0, 0)", x.wrong(0, 0), NONE);
        // each two of the three agree, all three do not
        x.picture(0, 0, 10, 19);
        due("wrong(0, 0)", x.wrong(0, 0), 2);
        x.picture(0, 0, 40, 50);
        due("wrong(0, 0), the first stays", x.wrong(0, 0), 2);
        x.picture(1, 3, 0, 0);
        x.picture(1, 3, 1, 1);
        due("wrong(1, 3)", x.wrong(1, 3), 1);
        due("wrong(1, 0)", x.wrong(1, 0), NONE);
        due("wrong(0, 3)", x.wrong(0, 3), NONE);
        due("wrong(0, 4)", x.wrong(0, 4), BAD);
        due("wrong(0, -1)", x.wrong(0, -1), BAD);
        due("wrong(2, 0)", x.wrong(2, 0), BAD);
        due("wrong(-1, 0)", x.wrong(-1, 0), BAD);
    }

    private static void days() {
        promise = "12 days";
        WaxShow x = withFigures(2);
        due("days(0, 0, 50)", x.days(0, 0, 50), 0);
        due("days(0, 3, 1)", x.days(0, 3, 1), 0);
        due("days(1, 0, 2)", x.days(1, 0, 2), 0);
        due("days(0, 0, 51)", x.days(0, 0, 51), BAD);
        due("days(0, 0, -1)", x.days(0, 0, -1), BAD);
        due("days(0, 4, 0)", x.days(0, 4, 0), BAD);
        due("days(0, -1, 0)", x.days(0, -1, 0), BAD);
        due("days(2, 0, 0)", x.days(2, 0, 0), BAD);
        due("days(-1, 0, 0)", x.days(-1, 0, 0), BAD);
        due("days(0, 0, 0)", x.days(0, 0, 0), 50);
        due("days(0, 0, 1)", x.days(0, 0, 1), 0);
        due("days(0, 3, 1)", x.days(0, 3, 1), 1);
        due("days(1, 0, 1)", x.days(1, 0, 1), 2);
    }

    private static void made() {
        promise = "13 made";
        WaxShow x = new WaxShow();
        due("made(0) of none", x.made(0), 0);
        due("made(1) of none", x.made(1), BAD);
        x.figure(0);
        x.figure(0);
        due("made(3) without days", x.made(3), 0);
        int[][] days = {{4, 1, 2, 3}, {1, 5, 1, 1}};
        for (int i = 0; i < 2; i++) {
            for (int hand = 0; hand < 4; hand++) {
                x.days(i, hand, days[i][hand]);
            }
        }
        due("made(0)", x.made(0), 0);
        due("made(1)", x.made(1), 10);
        due("made(2)", x.made(2), 8);
        // 1 ahead: head 1, 5; hair 6, 7; eyes 7, 9; dress 8, 12. 0 ahead: 4, 5; 5, 10; 7, 11; 10, 12
        due("made(3)", x.made(3), 12);
        x.days(1, 3, 2);
        // 1 ahead: dress 9, 12. 0 ahead: dress 10, 13
        due("made(3), new days", x.made(3), 12);
        due("order(3, 0)", x.order(3, 0), 1);
        due("made(4)", x.made(4), BAD);
        due("made(-1)", x.made(-1), BAD);
        due("made(LOW)", x.made(LOW), BAD);
        due("made(HIGH)", x.made(HIGH), BAD);
        // refused days change nothing
        x.days(1, 3, 51);
        due("made(3) after BAD", x.made(3), 12);
        WaxShow y = withFigures(8);
        for (int i = 0; i < 8; i++) {
            for (int hand = 0; hand < 4; hand++) {
                y.days(i, hand, 50);
            }
        }
        due("made(255)", y.made(255), 550);
        due("made(256)", y.made(256), BAD);
    }

    private static void order() {
        promise = "14 order";
        WaxShow x = withFigures(3);
        due("order(7, 0)", x.order(7, 0), 0);
        due("order(7, 1)", x.order(7, 1), 1);
        due("order(7, 2)", x.order(7, 2), 2);
        due("order(7, 3)", x.order(7, 3), NONE);
        due("order(7, HIGH)", x.order(7, HIGH), NONE);
        due("order(7, -1)", x.order(7, -1), NONE);
        due("order(7, LOW)", x.order(7, LOW), NONE);
        due("order(0, 0)", x.order(0, 0), NONE);
        due("order(8, 0)", x.order(8, 0), BAD);
        due("order(-1, 0)", x.order(-1, 0), BAD);
        due("order(8, -1)", x.order(8, -1), BAD);
        // two hands alone: those with a short first hand come first (2, 1), then 0 with a short last one
        int[][] days = {{6, 0, 0, 1}, {3, 0, 0, 6}, {1, 0, 0, 5}};
        for (int i = 0; i < 3; i++) {
            for (int hand = 0; hand < 4; hand++) {
                x.days(i, hand, days[i][hand]);
            }
        }
        due("made(7)", x.made(7), 13);
        due("order(7, 0)", x.order(7, 0), 2);
        due("order(7, 1)", x.order(7, 1), 1);
        due("order(7, 2)", x.order(7, 2), 0);
        due("order(5, 0)", x.order(5, 0), 2);
        due("order(5, 1)", x.order(5, 1), 0);
        due("order(5, 2)", x.order(5, 2), NONE);
        due("order(7, 2) again", x.order(7, 2), 0);
        // with like ends the first by numbers, though another one comes to the same day
        WaxShow y = withFigures(3);
        for (int i = 0; i < 3; i++) {
            y.days(i, 0, 4);
        }
        y.days(2, 3, 2);
        due("made(7)", y.made(7), 12);
        due("order(7, 0)", y.order(7, 0), 0);
        due("order(7, 1)", y.order(7, 1), 2);
        due("order(7, 2)", y.order(7, 2), 1);
    }

    private static void room() {
        promise = "15 room";
        WaxShow x = new WaxShow();
        x.come(0, 2);
        due("out(1)", x.out(1), 15);
        due("room(0, 1, 1)", x.room(0, 1, 1), 1);
        due("room(1, 100, 30)", x.room(1, 100, 30), 1);
        due("room(2, 1, 2)", x.room(2, 1, 2), 1);
        due("out(0)", x.out(0), 33);
        due("out(1)", x.out(1), 35);
        due("room(0, -1, 5)", x.room(0, -1, 5), BAD);
        due("room(0, 101, 5)", x.room(0, 101, 5), BAD);
        due("room(0, 5, 0)", x.room(0, 5, 0), BAD);
        due("room(0, 5, 31)", x.room(0, 5, 31), BAD);
        due("room(-1, 5, 5)", x.room(-1, 5, 5), BAD);
        due("room(3, 5, 5)", x.room(3, 5, 5), BAD);
        due("room(LOW, HIGH, LOW)", x.room(LOW, HIGH, LOW), BAD);
        due("out(1) after BAD", x.out(1), 35);
        due("room(2, 0, 1)", x.room(2, 0, 1), 1);
        due("out(0), room 2 shut", x.out(0), NONE);
        due("most(1), room 2 shut", x.most(1), 2);
        due("most(2), room 2 shut", x.most(2), 0);
        due("room(2, 2, 1)", x.room(2, 2, 1), 1);
        due("out(1), room 2 open", x.out(1), 33);
    }

    private static void come() {
        promise = "16 come";
        WaxShow x = new WaxShow();
        due("come(0, 1)", x.come(0, 1), 1);
        due("come(0, 20)", x.come(0, 20), 21);
        due("come(601, 1)", x.come(601, 1), BAD);
        due("come(-1, 1)", x.come(-1, 1), BAD);
        due("come(0, 0)", x.come(0, 0), BAD);
        due("come(0, 21)", x.come(0, 21), BAD);
        due("come(0, LOW)", x.come(0, LOW), BAD);
        due("come(0, HIGH)", x.come(0, HIGH), BAD);
        due("come(7, 1)", x.come(7, 1), 22);
        due("come(6, 1)", x.come(6, 1), NO);
        due("come(6, 20)", x.come(6, 20), NO);
        due("come(6, 21)", x.come(6, 21), BAD);
        due("come(7, 19)", x.come(7, 19), FULL);
        due("come(600, 20)", x.come(600, 20), FULL);
        due("come(7, 1) after a later one was refused", x.come(7, 1), 23);
        due("come(600, 17)", x.come(600, 17), 40);
        due("come(600, 1)", x.come(600, 1), FULL);
        due("come(599, 1)", x.come(599, 1), NO);
        due("come(599, 0)", x.come(599, 0), BAD);
        WaxShow y = new WaxShow();
        due("come(8, 1), the first", y.come(8, 1), 1);
        due("come(7, 1), ahead of the first", y.come(7, 1), NO);
        due("come(8, 20)", y.come(8, 20), 21);
        due("count(2)", x.count(2), 40);
        due("out(39)", x.out(39), 620);
    }

    private static void empty() {
        promise = "17 empty";
        WaxShow x = new WaxShow();
        due("empty() of none", x.empty(), 0);
        x.room(0, 4, 6);
        x.come(300, 5);
        due("empty()", x.empty(), 5);
        due("count(2)", x.count(2), 0);
        due("empty() again", x.empty(), 0);
        due("out(0)", x.out(0), BAD);
        due("most(0)", x.most(0), 0);
        // no last one, so that an early minute is as told again; the rooms stay as they were
        due("come(2, 5)", x.come(2, 5), 5);
        due("out(0)", x.out(0), 18);
        due("most(0)", x.most(0), 4);
        due("come(2, 20)", x.come(2, 20), 25);
        due("come(2, 15)", x.come(2, 15), 40);
        due("empty()", x.empty(), 40);
    }

    private static void out() {
        promise = "18 out";
        WaxShow x = new WaxShow();
        due("out(0) of none", x.out(0), BAD);
        x.come(10, 3);
        due("out(-1)", x.out(-1), BAD);
        due("out(3)", x.out(3), BAD);
        due("out(LOW)", x.out(LOW), BAD);
        due("out(HIGH)", x.out(HIGH), BAD);
        due("out(2)", x.out(2), 25);
        // those that have looked wait in their room, and hold its place
        x.room(0, 1, 2);
        x.room(1, 1, 10);
        x.room(2, 1, 3);
        due("out(0)", x.out(0), 25);
        due("out(1)", x.out(1), 35);
        due("out(2)", x.out(2), 45);
        x.come(20, 1);
        due("out(3)", x.out(3), 55);
        x.room(0, 0, 2);
        due("out(0), room 0 shut", x.out(0), NONE);
        x.room(0, 1, 2);
        x.room(1, 0, 10);
        due("out(0), room 1 shut", x.out(0), NONE);
        x.room(1, 1, 10);
        due("out(3), all open", x.out(3), 55);
        // 40 one behind the other, half an hour each
        WaxShow y = new WaxShow();
        y.room(0, 1, 30);
        y.room(1, 1, 30);
        y.room(2, 1, 30);
        y.come(600, 20);
        y.come(600, 20);
        due("out(39)", y.out(39), 600 + 42 * 30);
    }

    private static void outOfOneMinute() {
        promise = "18 out, one minute";
        // rooms from the last to the first: a place that is left is taken in the same minute
        WaxShow x = new WaxShow();
        x.room(0, 1, 1);
        x.room(1, 1, 1);
        x.room(2, 1, 1);
        x.come(0, 4);
        for (int v = 0; v < 4; v++) {
            due("out(" + v + ")", x.out(v), 3 + v);
        }
        due("most(0)", x.most(0), 1);
        due("most(2)", x.most(2), 1);
        due("most(3)", x.most(3), 3);
    }

    private static void most() {
        promise = "19 most";
        WaxShow x = new WaxShow();
        for (int room = 0; room < 4; room++) {
            due("most(" + room + ") of none", x.most(room), 0);
        }
        due("most(4)", x.most(4), BAD);
        due("most(-1)", x.most(-1), BAD);
        due("most(LOW)", x.most(LOW), BAD);
        due("most(HIGH)", x.most(HIGH), BAD);
        x.room(0, 4, 3);
        x.room(1, 2, 3);
        x.come(0, 9);
        due("most(0)", x.most(0), 4);
        due("most(1)", x.most(1), 2);
        due("most(2)", x.most(2), 4);
        due("most(3)", x.most(3), 5);
        x.room(1, 0, 3);
        due("most(0), room 1 shut", x.most(0), 4);
        due("most(1), room 1 shut", x.most(1), 0);
        due("most(3), room 1 shut", x.most(3), 5);
        x.room(0, 0, 3);
        due("most(0), all wait", x.most(0), 0);
        due("most(3), all wait", x.most(3), 9);
        // one alone, after many that are gone
        x.empty();
        x.room(0, 4, 3);
        x.room(1, 2, 3);
        x.come(0, 1);
        for (int room = 0; room < 3; room++) {
            due("most(" + room + ") of one", x.most(room), 1);
        }
        due("most(3) of one", x.most(3), 0);
        // one that leaves as another one comes is not there with it at the end of the minute
        WaxShow y = new WaxShow();
        y.come(0, 1);
        y.come(5, 1);
        due("most(0)", y.most(0), 1);
        due("most(1)", y.most(1), 1);
        due("most(3), none waits at a minute's end", y.most(3), 0);
        y.empty();
        y.come(0, 1);
        y.come(4, 1);
        due("most(0), both", y.most(0), 2);
    }

    private static void heat() {
        promise = "20 heat";
        WaxShow x = withFigures(2);
        due("heat(0, 30, 1)", x.heat(0, 30, 1), 0);
        due("heat(0, 31, 2)", x.heat(0, 31, 2), 2);
        due("heat(0, 0, 50)", x.heat(0, 0, 50), 2);
        due("about(0, 3)", x.about(0, 3), 997);
        due("heat(0, 19, 50)", x.heat(0, 19, 50), 2);
        due("about(0, 3), 19", x.about(0, 3), 997);
        due("heat(0, 20, 5)", x.heat(0, 20, 5), 2);
        due("about(0, 3), 20", x.about(0, 3), 992);
        due("heat(0, 39, 2)", x.heat(0, 39, 2), 20);
        due("about(0, 3), 39", x.about(0, 3), 990);
        due("heat(0, 60, 50)", x.heat(0, 60, 50), 1520);
        due("about(0, 3), 60", x.about(0, 3), 840);
        due("about(1, 3)", x.about(1, 3), 1000);
        due("about(1, 4)", x.about(1, 4), 0);
        due("heat(0, 61, 1)", x.heat(0, 61, 1), BAD);
        due("heat(0, -1, 1)", x.heat(0, -1, 1), BAD);
        due("heat(0, 60, 0)", x.heat(0, 60, 0), BAD);
        due("heat(0, 60, 51)", x.heat(0, 60, 51), BAD);
        due("heat(2, 60, 1)", x.heat(2, 60, 1), BAD);
        due("heat(-1, 60, 1)", x.heat(-1, 60, 1), BAD);
        due("about(0, 4) after BAD", x.about(0, 4), 1520);
        for (int i = 1; i <= 4; i++) {
            due("heat(0, 60, 50)", x.heat(0, 60, 50), 1520 + i * 1500);
        }
        due("about(0, 3)", x.about(0, 3), 240);
        due("heat(0, 60, 46)", x.heat(0, 60, 46), 7520 + 46 * 30);
        due("about(0, 3), 102", x.about(0, 3), 102);
        due("heat(0, 60, 1)", x.heat(0, 60, 1), 7520 + 47 * 30);
        due("about(0, 3), not below 100", x.about(0, 3), 100);
        x.heat(0, 40, 50);
        due("about(0, 3), still 100", x.about(0, 3), 100);
    }

    private static void touch() {
        promise = "21 touch";
        WaxShow x = withFigures(2);
        due("touch(0, 0)", x.touch(0, 0), 0);
        due("touch(0, 50)", x.touch(0, 50), 50);
        due("touch(0, 51)", x.touch(0, 51), BAD);
        due("touch(0, -1)", x.touch(0, -1), BAD);
        due("touch(2, 1)", x.touch(2, 1), BAD);
        due("touch(-1, 1)", x.touch(-1, 1), BAD);
        due("touch(0, HIGH)", x.touch(0, HIGH), BAD);
        for (int i = 2; i < 20; i++) {
            due("touch(0, 50)", x.touch(0, 50), 50 * i);
        }
        due("touch(0, 49)", x.touch(0, 49), 999);
        due("touch(0, 50)", x.touch(0, 50), 1000);
        due("touch(0, 0)", x.touch(0, 0), 1000);
        due("about(0, 5)", x.about(0, 5), 1000);
        due("about(1, 5)", x.about(1, 5), 0);
    }

    private static void repair() {
        promise = "22 repair";
        WaxShow x = withFigures(2);
        due("repair(0)", x.repair(0), NO);
        due("repair(2)", x.repair(2), BAD);
        due("repair(-1)", x.repair(-1), BAD);
        x.heat(0, 37, 7);
        due("repair(0), sag 49", x.repair(0), NO);
        due("about(0, 4), kept", x.about(0, 4), 49);
        x.touch(0, 19);
        due("repair(0), touches 19", x.repair(0), NO);
        x.touch(0, 1);
        // wax 993 and 49 by 10
        due("repair(0), touches 20", x.repair(0), 997);
        due("about(0, 3)", x.about(0, 3), 997);
        due("about(0, 4)", x.about(0, 4), 0);
        due("about(0, 5)", x.about(0, 5), 0);
        due("repair(0) again", x.repair(0), NO);
        due("count(4)", x.count(4), 1);
        x.heat(1, 55, 2);
        due("repair(0), another's", x.repair(0), NO);
        due("repair(1), sag 50", x.repair(1), 1001);
        due("count(4)", x.count(4), 2);
    }

    private static void dueSet() {
        promise = "23 due";
        WaxShow x = withFigures(8);
        due("due()", x.due(), 0);
        x.heat(0, 37, 7);
        x.touch(1, 19);
        due("due(), sag 49 and touches 19", x.due(), 0);
        x.heat(0, 31, 1);
        due("due(), sag 50", x.due(), 1);
        x.touch(1, 1);
        due("due(), touches 20", x.due(), 3);
        x.touch(7, 50);
        due("due(), the last one", x.due(), 131);
        x.heat(7, 60, 50);
        due("due(), both", x.due(), 131);
        x.repair(1);
        due("due(), after a repair", x.due(), 129);
    }

    private static void tell() {
        promise = "24 tell";
        WaxShow x = new WaxShow();
        due("tell of none", x.tell(0, 0, 0, 0), NONE);
        due("tell(-1, 0, 0, 0)", x.tell(-1, 0, 0, 0), BAD);
        due("tell(0, -1, 0, 0)", x.tell(0, -1, 0, 0), BAD);
        due("tell(0, 0, 3001, 0)", x.tell(0, 0, 3001, 0), BAD);
        due("tell(0, 0, 0, 3001)", x.tell(0, 0, 0, 3001), BAD);
        due("tell(HIGH, LOW, 0, 0)", x.tell(HIGH, LOW, 0, 0), BAD);
        x.figure(0);
        x.figure(0);
        due("tell of like ones", x.tell(3000, 3000, 3000, 3000), 0);
        for (int m = 0; m < 4; m++) {
            x.picture(0, m, 100 * m, 100 * m + 1);
            x.picture(1, m, 100 * m + 11, 100 * m + 20);
        }
        // middles of 1: 100 m and 15
        due("tell(0, 100, 200, 300)", x.tell(0, 100, 200, 300), 0);
        due("tell(15, 115, 215, 315)", x.tell(15, 115, 215, 315), 1);
        due("tell(7, 107, 207, 307)", x.tell(7, 107, 207, 307), 0);
        due("tell(8, 107, 207, 307)", x.tell(8, 107, 207, 307), 0);
        due("tell(8, 108, 207, 307)", x.tell(8, 108, 207, 307), 0);
        due("tell(8, 108, 208, 307)", x.tell(8, 108, 208, 307), 1);
        // squares, not ways: 15 in one is farther than 7 and 8 in three
        due("tell(15, 107, 207, 307)", x.tell(15, 107, 207, 307), 1);
        due("tell(0, 108, 208, 308)", x.tell(0, 108, 208, 308), 0);
        // each number stands for its own measure
        due("tell(300, 200, 100, 0)", x.tell(300, 200, 100, 0), 0);
        // one measure that does not agree is enough, whichever it is
        for (int m = 0; m < 4; m++) {
            WaxShow y = withFigures(2);
            y.picture(0, m, 0, 0);
            due("tell, " + m + " agrees", y.tell(0, 0, 0, 0), 0);
            y.picture(0, m, 1, 1);
            due("tell, " + m + " does not agree", y.tell(0, 0, 0, 0), 1);
        }
        x.picture(0, 2, 900, 900);
        due("tell, 0 is left out", x.tell(0, 100, 200, 300), 1);
        x.picture(1, 3, 900, 900);
        due("tell, both left out", x.tell(0, 100, 200, 300), NONE);
        x.figure(0);
        due("tell, 2 alone", x.tell(0, 0, 0, 0), 2);
        due("tell changes nothing", x.count(3), 0);
    }

    private static void likeness() {
        promise = "25 likeness";
        WaxShow x = withFigures(2);
        due("likeness(0, 0, 3000, 0, 3000)", x.likeness(0, 0, 3000, 0, 3000), 1);
        due("likeness(1, 0, 0, 0, 0)", x.likeness(1, 0, 0, 0, 0), 2);
        due("likeness(2, 0, 0, 0, 0)", x.likeness(2, 0, 0, 0, 0), BAD);
        due("likeness(-1, 0, 0, 0, 0)", x.likeness(-1, 0, 0, 0, 0), BAD);
        due("likeness(0, -1, 0, 0, 0)", x.likeness(0, -1, 0, 0, 0), BAD);
        due("likeness(0, 0, 3001, 0, 0)", x.likeness(0, 0, 3001, 0, 0), BAD);
        due("likeness(0, 0, 0, -1, 0)", x.likeness(0, 0, 0, -1, 0), BAD);
        due("likeness(0, 0, 0, 0, 3001)", x.likeness(0, 0, 0, 0, 3001), BAD);
        for (int i = 3; i <= 20; i++) {
            due("likeness(0, 1, 2, 3, 4)", x.likeness(0, 1, 2, 3, 4), i);
        }
        due("likeness, the 21st", x.likeness(0, 1, 2, 3, 4), FULL);
        due("likeness of another, the 21st", x.likeness(1, 1, 2, 3, 4), FULL);
        due("likeness BAD, the 21st", x.likeness(0, 1, 2, 3, 3001), BAD);
        due("count(3)", x.count(3), 20);
        due("known(0)", x.known(0), 19);
        due("known(1)", x.known(1), 0);
    }

    private static void known() {
        promise = "26 known";
        WaxShow x = withFigures(3);
        due("known(3)", x.known(3), BAD);
        due("known(-1)", x.known(-1), BAD);
        due("known(0) of none", x.known(0), 0);
        x.likeness(0, 0, 0, 0, 0);
        x.likeness(1, 0, 0, 0, 0);
        x.likeness(1, 3000, 0, 0, 0);
        x.likeness(0, 3000, 0, 0, 0);
        due("known(0)", x.known(0), 2);
        due("known(1)", x.known(1), 0);
        // by the measures as they are now
        x.picture(1, 0, 2900, 3000);
        due("known(0), new measures", x.known(0), 1);
        due("known(1), new measures", x.known(1), 1);
        due("known(2)", x.known(2), 0);
        x.picture(0, 1, 0, 0);
        x.picture(0, 1, 1, 1);
        due("known(0), left out", x.known(0), 0);
        due("known(1), left out", x.known(1), 1);
        x.picture(2, 0, 2990, 3000);
        due("known(1), 2 is nearer", x.known(1), 1);
        due("known(2), none told as its", x.known(2), 0);
        // each of the four numbers is kept for its own measure
        WaxShow y = withFigures(4);
        for (int i = 0; i < 4; i++) {
            y.picture(i, i, 3000, 3000);
            y.likeness(i, i == 0 ? 3000 : 0, i == 1 ? 3000 : 0, i == 2 ? 3000 : 0, i == 3 ? 3000 : 0);
        }
        for (int i = 0; i < 4; i++) {
            due("known(" + i + "), by its own measure", y.known(i), 1);
        }
    }

    private static void about() {
        promise = "27 about";
        WaxShow x = new WaxShow();
        due("about(0, 0) of none", x.about(0, 0), BAD);
        x.figure(9);
        x.figure(120);
        x.rights(1, 2, 3);
        x.heat(1, 41, 2);
        x.touch(1, 6);
        int[] want = {120, 2, 3, 996, 22, 6};
        for (int i = 0; i < 6; i++) {
            due("about(1, " + i + ")", x.about(1, i), want[i]);
        }
        due("about(0, 0)", x.about(0, 0), 9);
        due("about(1, 6)", x.about(1, 6), BAD);
        due("about(1, -1)", x.about(1, -1), BAD);
        due("about(2, 0)", x.about(2, 0), BAD);
        due("about(-1, 0)", x.about(-1, 0), BAD);
        due("about(HIGH, LOW)", x.about(HIGH, LOW), BAD);
    }

    private static void count() {
        promise = "28 count";
        WaxShow x = withFigures(2);
        x.places(4);
        x.come(3, 7);
        x.likeness(0, 1, 1, 1, 1);
        x.likeness(0, 1, 1, 1, 1);
        x.likeness(0, 1, 1, 1, 1);
        x.touch(1, 20);
        x.repair(1);
        int[] want = {2, 4, 7, 3, 1};
        for (int i = 0; i < 5; i++) {
            due("count(" + i + ")", x.count(i), want[i]);
        }
        due("count(5)", x.count(5), BAD);
        due("count(-1)", x.count(-1), BAD);
        due("count(LOW)", x.count(LOW), BAD);
        due("count(HIGH)", x.count(HIGH), BAD);
    }

    private static void digest() {
        promise = "29 digest";
        WaxShow x = new WaxShow();
        due("digest() of a new object", x.digest(),
                mix(239, 0, 3, 0, 0, 0, 10, 5, 10, 5, 10, 5, 0));
        x.figure(11);
        x.figure(12);
        x.rights(1, 1, 4);
        x.heat(1, 45, 3);
        x.repair(1);
        x.touch(1, 8);
        x.touch(0, 25);
        x.repair(0);
        x.heat(0, 50, 2);
        for (int i = 0; i < 6; i++) {
            x.fame(0, i, 10 * i - 20);
        }
        x.picture(0, 1, 100, 200);
        x.picture(1, 2, 100, 200);
        x.picture(1, 2, 300, 400);
        for (int i = 0; i < 4; i++) {
            x.days(1, i, 40 + i);
        }
        x.room(0, 1, 2);
        x.room(1, 3, 4);
        x.room(2, 5, 6);
        x.places(4);
        x.standing(2);
        x.come(9, 6);
        x.likeness(0, 5, 6, 7, 8);
        long h = mix(239, 2, 4, 6, 1, 1);
        h = mix(h, 11, 0, 5, 996, 40, 0, -20, -10, 0, 10, 20, 30);
        h = mix(h, 0, 3000, 100, 200, 0, 3000, 0, 3000, 0, 0, 0, 0);
        h = mix(h, 12, 1, 4, 994, 45, 8, 0, 0, 0, 0, 0, 0);
        h = mix(h, 0, 3000, 0, 3000, -1, -1, 0, 3000, 40, 41, 42, 43);
        h = mix(h, 1, 2, 3, 4, 5, 6, 2);
        due("digest()", x.digest(), h);
        due("digest() again", x.digest(), h);
    }

    private static long mix(long start, int... values) {
        long h = start;
        for (int v : values) {
            h = 31 * h + v;
        }
        return h;
    }
}
