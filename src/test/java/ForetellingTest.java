/** Promises 18 to 20: foretold, tight, plan. */
final class ForetellingTest {
    private static final int MIN = Integer.MIN_VALUE;
    private static final int MAX = Integer.MAX_VALUE;

    private ForetellingTest() {
    }

    static void run() {
        foretold();
        farthest();
        tight();
        plan();
        planAgainstCatchingUp();
        planWithAllPens();
        wrongPlans();
    }

    private static void foretold() {
        RunDesk x = new RunDesk();
        x.way(5);
        x.mat(1001, 5);
        x.runner(0, 299, 40, 0, 1, 0);
        x.runner(0, 300, 40, 0, 1, 0);
        x.runner(0, 300, 40, 0, 1, 1);
        Check.due("no GUN, none foretold", x.foretold(0, 0), 0);
        x.gun(0, 0);
        Check.due("at MAT 0", x.foretold(0, 0), 2);
        // 299.299 seconds, cut, are in minute 4; 300.3 in minute 5
        Check.due("minute 4", x.foretold(1, 4), 1);
        Check.due("minute 5", x.foretold(1, 5), 1);
        Check.due("minute 6", x.foretold(1, 6), 0);
        x.gun(1, 59);
        Check.due("second 359 is in minute 5", x.foretold(1, 5), 2);
        x.gun(1, 60);
        Check.due("second 360 is in minute 6", x.foretold(1, 6), 1);
        x.saw(0, 0, 600);
        x.strike(0);
        Check.due("by the GUN, whatever was seen", x.foretold(1, 4), 1);
        int[] mats = {-1, 2, 12, MIN, MAX};
        for (int mat : mats) {
            Check.due("foretold(" + mat + ", 0)", x.foretold(mat, 0), -1);
        }
        Check.due("foretold(0, -1)", x.foretold(0, -1), -1);
        Check.due("foretold(0, MIN)", x.foretold(0, MIN), -1);
        Check.due("foretold(0, MAX)", x.foretold(0, MAX), 0);
        // 60 times this wraps round to 0
        Check.due("foretold(0, 2^30)", x.foretold(0, 1 << 30), 0);
    }

    private static void farthest() {
        RunDesk x = new RunDesk();
        x.way(5);
        x.mat(100000, 1);
        x.runner(0, 2000, 40, 0, 1, 5);
        x.runner(0, 2000, 40, 0, 1, 5);
        x.gun(5, 40000);
        Check.due("second 240,000", x.foretold(1, 4000), 2);
        Check.due("TIGHT there", x.tight(1), 4000);
        Check.due("TIGHT there, asked again", x.tight(1), 4000);
        x.strike(0);
        x.gun(5, 39999);
        Check.due("TIGHT a minute before", x.tight(1), 3999);
        x.way(5);
        x.mat(100000, 1);
        x.runner(0, 2000, 40, 0, 1, 5);
        x.runner(0, 2000, 40, 0, 1, 4);
        x.gun(5, 40000);
        Check.due("one alone is borne", x.tight(1), -1);
        Check.due("not at MAT 0", x.tight(0), -1);
    }

    private static void tight() {
        RunDesk x = new RunDesk();
        x.way(2);
        x.mat(1000, 1);
        for (int pen = 0; pen < 3; pen++) {
            x.runner(0, 300, 40, 0, 1, pen);
            x.runner(0, 300, 40, 0, 1, pen);
        }
        Check.due("without GUNS", x.tight(0), -1);
        x.gun(0, 600);
        Check.due("two are borne", x.tight(0), -1);
        Check.due("two are not", x.tight(1), 15);
        x.gun(1, 300);
        Check.due("the first such minute", x.tight(1), 10);
        Check.due("asked again", x.tight(1), 10);
        x.gun(2, 659);
        Check.due("four in one minute", x.tight(0), 10);
        x.gun(2, 660);
        Check.due("two in each", x.tight(0), -1);
        int[] mats = {-1, 2, 12, MIN, MAX};
        for (int mat : mats) {
            Check.due("tight(" + mat + ")", x.tight(mat), -1);
        }
    }

    private static void plan() {
        RunDesk x = new RunDesk();
        x.way(1);
        x.mat(1000, 1);
        x.runner(0, 300, 40, 0, 1, 0);
        x.runner(0, 300, 40, 0, 1, 2);
        x.gun(0, 7);
        Check.due("none up to 14", x.plan(30, 14), -1);
        Check.due("the GUNS stay", x.told(0, 7), 7);
        Check.due("also none", x.told(1, 7), -1);
        Check.due("15 from 30", x.plan(30, 15), 15);
        Check.due("PEN 0", x.told(0, 7), 30);
        Check.due("PEN 2", x.told(1, 7), 60);
        Check.due("the least", x.plan(30, 3000), 15);
        Check.due("30 from 0", x.plan(0, 3000), 30);
        RunDesk y = new RunDesk();
        y.way(1);
        y.runner(0, 300, 40, 0, 1, 3);
        y.runner(0, 300, 40, 0, 1, 3);
        Check.due("two of one PEN", y.plan(0, 3000), -1);
        Check.due("no GUN then", y.told(0, 7), -1);
    }

    private static void planAgainstCatchingUp() {
        RunDesk x = new RunDesk();
        x.way(1);
        x.mat(1000, 1);
        x.mat(1001, 1);
        x.mat(2000, 2);
        x.runner(0, 300, 40, 0, 1, 0);
        x.runner(0, 240, 40, 0, 1, 1);
        // up to 59 MAT 0 is TIGHT, then MAT 1 (300 and 240 + step), up to 119
        Check.due("step", x.plan(0, 3000), 120);
        Check.due("GUN", x.told(1, 7), 120);
        Check.due("none less", x.plan(0, 119), -1);
        Check.due("the GUN stays", x.told(1, 7), 120);
        x.way(3);
        x.mat(1000, 1);
        x.runner(0, 300, 40, 0, 1, 0);
        x.runner(0, 240, 40, 0, 1, 1);
        Check.due("step 0: 300 and 240 at MAT 1", x.plan(0, 3000), 0);
        x.runner(0, 330, 40, 0, 1, 1);
        // 300, 240 + step and 330 + step at MAT 1: from 30 on each is alone in its minute
        Check.due("step 30", x.plan(0, 3000), 30);
        x.mat(2000, 3);
        Check.due("a MAT that bears all", x.plan(0, 3000), 30);
    }

    private static void planWithAllPens() {
        RunDesk x = new RunDesk();
        Check.due("step 0 without RUNNERS", x.plan(10000, 0), 0);
        for (int pen = 0; pen < 6; pen++) {
            x.runner(0, 300, 40, 0, 1, pen);
            Check.due("all GUNS at 10,000", x.told(pen, 7), 10000);
        }
        x.way(1);
        for (int pen = 0; pen < 6; pen++) {
            x.runner(0, 300 - 10 * pen, 40, 0, 1, pen);
        }
        x.mat(100000, 1);
        // the faster PENS must not catch those ahead of them in one minute anywhere
        int step = x.plan(0, 3000);
        Check.due("step", step, 60);
        for (int pen = 0; pen < 6; pen++) {
            Check.due("GUN of PEN " + pen, x.told(pen, 7), pen * step);
        }
        Check.due("MAT 0", x.tight(0), -1);
        Check.due("MAT 1", x.tight(1), -1);
    }

    private static void wrongPlans() {
        RunDesk x = new RunDesk();
        x.runner(0, 300, 40, 0, 1, 0);
        x.gun(0, 7);
        int[] mosts = {-1, 3001, MIN, MAX};
        for (int most : mosts) {
            Check.due("plan(0, " + most + ")", x.plan(0, most), -1);
        }
        int[] ticks = {-1, 10001, MIN, MAX};
        for (int tick : ticks) {
            Check.due("plan(" + tick + ", 5)", x.plan(tick, 5), -1);
        }
        Check.due("the GUN stays", x.told(0, 7), 7);
        Check.due("plan(10000, 3000)", x.plan(10000, 3000), 0);
        Check.due("the GUN now", x.told(0, 7), 10000);
    }
}
