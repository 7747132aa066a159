/** The boundary cases of "Terms" 3 and of promises 18 to 20 (foretold, tight, plan), sentence by sentence. */
final class ForetoldEdgesTest {
    private static final int MIN = Integer.MIN_VALUE;
    private static final int MAX = Integer.MAX_VALUE;

    private ForetoldEdgesTest() {
    }

    static void run() {
        withoutAGun();
        metresTimesPaceCut();
        minutesOfSixtyTicks();
        moreThanItBears();
        planOfAStep();
        noSuchForetold();
        lastMinute();
        firstTightMinute();
        noSuchTight();
        leastStep();
        stepMost();
        gunsBecomeSo();
        gunsStay();
        planBounds();
        tightAgainAtAnEarlierMat();
        planWithOneMat();
    }

    private static void withoutAGun() {
        Doc.terms(3, "FORETOLD: a RUNNER whose PEN has a GUN passes a PLACE (its MAT)");
        RunDesk x = new RunDesk();
        x.runner(0, 300, 40, 0, 1, 0);
        x.runner(0, 300, 40, 0, 1, 1);
        x.saw(0, 0, 0);
        Check.due("a SPLIT is no GUN", x.foretold(0, 0), 0);
        x.gun(1, 0);
        Check.due("a GUN at 0", x.foretold(0, 0), 1);
        x.gun(0, 0);
        Check.due("two GUNS", x.foretold(0, 0), 2);
        x.gun(1, -1);
        Check.due("one GUN taken away", x.foretold(0, 0), 1);
        x.way(1);
        Check.due("without RUNNERS", x.foretold(0, 0), 0);
    }

    private static void metresTimesPaceCut() {
        Doc.terms(3, "at the GUN and metres times PACE by 1,000, cut");
        RunDesk x = new RunDesk();
        x.way(1);
        x.mat(1, 1);
        x.mat(999, 1);
        x.mat(1000, 1);
        x.mat(1001, 1);
        x.runner(0, 60, 40, 0, 1, 0);
        x.gun(0, 0);
        // 0.06, 59.94, 60 and 60.06 seconds
        Check.due("0.06", x.foretold(1, 0), 1);
        Check.due("59.94", x.foretold(2, 0), 1);
        Check.due("60", x.foretold(3, 1), 1);
        Check.due("60.06", x.foretold(4, 1), 1);
        x.gun(0, 59);
        Check.due("59.06 is cut", x.foretold(1, 0), 1);
        x.runner(0, 999, 40, 0, 1, 1);
        x.gun(1, 59);
        Check.due("59.999 is cut, too", x.foretold(1, 0), 2);
        x.runner(0, 1000, 40, 0, 1, 1);
        Check.due("60 is not", x.foretold(1, 0), 2);
        Check.due("60 is the next minute", x.foretold(1, 1), 1);
    }

    private static void minutesOfSixtyTicks() {
        Doc.terms(3, "a minute (60 ticks from each that 60 divides)");
        RunDesk x = new RunDesk();
        x.runner(0, 300, 40, 0, 1, 0);
        int[] guns = {0, 1, 59, 60, 119, 120, 39959, 39960, 40000};
        int[] minutes = {0, 0, 0, 1, 1, 2, 665, 666, 666};
        for (int i = 0; i < guns.length; i++) {
            x.gun(0, guns[i]);
            for (int minute = Math.max(0, minutes[i] - 1); minute < minutes[i] + 2; minute++) {
                Check.due("second " + guns[i] + " in minute " + minute, x.foretold(0, minute),
                    minute == minutes[i] ? 1 : 0);
            }
        }
    }

    private static void moreThanItBears() {
        Doc.terms(3, "in which more are foretold to pass it than it BEARS");
        for (int bears = 1; bears < 60; bears += 29) {
            RunDesk x = new RunDesk();
            x.way(bears);
            x.mat(1000, bears);
            x.gun(0, 60);
            for (int runner = 0; runner < bears; runner++) {
                x.runner(0, 300, 40, 0, 1, 0);
            }
            Check.due("as many as MAT 0 BEARS", x.tight(0), -1);
            Check.due("as many as MAT 1 BEARS", x.tight(1), -1);
            x.runner(0, 300, 40, 0, 1, 0);
            Check.due("one more at MAT 0", x.tight(0), 1);
            Check.due("one more at MAT 1", x.tight(1), 6);
        }
        RunDesk y = new RunDesk();
        y.way(1);
        y.runner(0, 300, 40, 0, 1, 0);
        y.runner(0, 300, 40, 0, 1, 1);
        y.gun(0, 59);
        y.gun(1, 60);
        Check.due("side by side in two minutes", y.tight(0), -1);
        y.gun(0, 119);
        Check.due("59 ticks apart in one minute", y.tight(0), 1);
    }

    private static void planOfAStep() {
        Doc.terms(3, "PLAN of a step d from a tick g: PEN k has the GUN g and k times d.");
        RunDesk x = new RunDesk();
        x.way(1);
        for (int pen = 0; pen < 6; pen++) {
            x.runner(0, 300, 40, 0, 1, pen);
        }
        Check.due("a minute for each PEN", x.plan(10000 - 10000 % 60, 3000), 60);
        for (int pen = 0; pen < 6; pen++) {
            Check.due("GUN of PEN " + pen, x.told(pen, 7), 9960 + 60 * pen);
        }
    }

    private static void noSuchForetold() {
        Doc.says(18, "NONE: no such MAT, number below 0.");
        RunDesk x = new RunDesk();
        x.runner(0, 300, 40, 0, 1, 0);
        x.gun(0, 0);
        int[] mats = {-1, 2, 3, 11, 12, MIN, MAX};
        for (int mat : mats) {
            Check.due("foretold(" + mat + ", 0)", x.foretold(mat, 0), -1);
            Check.due("foretold(" + mat + ", -1)", x.foretold(mat, -1), -1);
        }
        int[] below = {-1, -2, -60, -(1 << 30), MIN};
        for (int minute : below) {
            Check.due("foretold(0, " + minute + ")", x.foretold(0, minute), -1);
        }
        // 60 times these wraps round to 0 or to a small number
        int[] great = {1 << 30, MAX, MAX / 60, MAX / 60 + 1, 71582789, 143165577};
        for (int minute : great) {
            Check.due("foretold(0, " + minute + ")", x.foretold(0, minute), 0);
        }
    }

    private static void lastMinute() {
        Doc.says(18, "How many are foretold to pass a MAT in the minute that begins at 60 times a number.");
        RunDesk x = new RunDesk();
        x.way(1);
        x.mat(100000, 59);
        x.gun(5, 40000);
        for (int runner = 0; runner < 60; runner++) {
            x.runner(3, 2000, 40, 0, 1, 5);
        }
        Check.due("second 240,000", x.foretold(1, 4000), 60);
        Check.due("a minute behind", x.foretold(1, 4001), 0);
        Check.due("a minute ahead", x.foretold(1, 3999), 0);
        Check.due("TIGHT in it", x.tight(1), 4000);
        x.gun(5, 39999);
        Check.due("second 239,999", x.foretold(1, 3999), 60);
        Check.due("TIGHT a minute ahead", x.tight(1), 3999);
    }

    private static void firstTightMinute() {
        Doc.says(19, "The first minute in which a MAT is TIGHT");
        RunDesk x = new RunDesk();
        x.way(1);
        for (int pen = 5; pen >= 0; pen--) {
            x.runner(0, 300, 40, 0, 1, pen);
            x.runner(0, 300, 40, 0, 1, pen);
        }
        for (int pen = 0; pen < 6; pen++) {
            x.gun(pen, 60 * (pen + 3) + pen);
        }
        Check.due("the first of six", x.tight(0), 3);
        x.gun(4, 59);
        Check.due("minute 0", x.tight(0), 0);
        Check.due("the same when asked again", x.tight(0), 0);
        x.gun(4, 40000);
        Check.due("it is gone", x.tight(0), 3);
    }

    private static void noSuchTight() {
        Doc.says(19, "NONE: none, or no such MAT.");
        RunDesk x = new RunDesk();
        Check.due("without RUNNERS", x.tight(0), -1);
        x.way(1);
        x.mat(1000, 1);
        x.runner(0, 300, 40, 0, 1, 0);
        x.runner(0, 300, 40, 0, 1, 0);
        Check.due("without a GUN", x.tight(0), -1);
        x.gun(0, 0);
        Check.due("with one", x.tight(1), 5);
        int[] mats = {-1, 2, 3, 11, 12, MIN, MAX};
        for (int mat : mats) {
            Check.due("tight(" + mat + ")", x.tight(mat), -1);
        }
    }

    private static RunDesk twoPens() {
        RunDesk x = new RunDesk();
        x.way(1);
        x.mat(1000, 1);
        x.runner(0, 300, 40, 0, 1, 0);
        x.runner(0, 300, 40, 0, 1, 1);
        return x;
    }

    private static void leastStep() {
        Doc.says(20, "The least step (0 .. most) whose PLAN from a tick leaves no MAT TIGHT");
        Check.due("from 0", twoPens().plan(0, 3000), 60);
        Check.due("from 1", twoPens().plan(1, 3000), 59);
        Check.due("from 59", twoPens().plan(59, 3000), 1);
        Check.due("from 60", twoPens().plan(60, 3000), 60);
        Check.due("most is the step", twoPens().plan(0, 60), 60);
        Check.due("most is one less", twoPens().plan(0, 59), -1);
        RunDesk alone = new RunDesk();
        alone.way(1);
        alone.runner(0, 300, 40, 0, 1, 5);
        Check.due("step 0, most 0", alone.plan(0, 0), 0);
        RunDesk three = new RunDesk();
        three.way(2);
        three.runner(0, 300, 40, 0, 1, 5);
        three.runner(0, 300, 40, 0, 1, 5);
        Check.due("two are borne", three.plan(0, 0), 0);
        three.runner(0, 300, 40, 0, 1, 5);
        Check.due("no step parts one PEN", three.plan(0, 3000), -1);
    }

    /** PEN 0 fills each minute from 100 on for so long at MAT 1; PEN 1 comes from minute 100 on. */
    private static RunDesk minutesFilled(int minutes) {
        RunDesk x = new RunDesk();
        x.way(1000);
        x.mat(60000, 1);
        x.runner(0, 100, 40, 0, 1, 1);
        for (int i = 0; i < minutes; i++) {
            x.runner(0, 100 + i, 40, 0, 1, 0);
        }
        return x;
    }

    private static void stepMost() {
        Doc.says(20, "most not 0 .. 3,000");
        Check.due("step 3,000 is the last that is tried", minutesFilled(50).plan(0, 3000), 3000);
        Check.due("none up to 2,999", minutesFilled(50).plan(0, 2999), -1);
        Check.due("3,060 is no step", minutesFilled(51).plan(0, 3000), -1);
        Check.due("2,940", minutesFilled(49).plan(0, 3000), 2940);
    }

    private static void gunsBecomeSo() {
        Doc.says(20, "the GUNS become so");
        RunDesk x = minutesFilled(50);
        x.gun(4, 7);
        Check.due("step", x.plan(10000 - 10000 % 60, 3000), 3000);
        Check.due("PEN 1", x.told(0, 7), 12960);
        Check.due("PEN 0", x.told(1, 7), 9960);
        x.runner(0, 300, 40, 0, 1, 4);
        x.runner(0, 300, 40, 0, 1, 5);
        Check.due("PEN 4, without RUNNERS then", x.told(51, 7), 9960 + 4 * 3000);
        Check.due("PEN 5, without a GUN then", x.told(52, 7), 9960 + 5 * 3000);
    }

    private static void gunsStay() {
        Doc.says(20, "NONE (and they stay): none");
        RunDesk x = twoPens();
        x.runner(0, 300, 40, 0, 1, 2);
        x.gun(0, 11);
        x.gun(1, 22);
        Check.due("none", x.plan(0, 59), -1);
        Check.due("most 3,001", x.plan(0, 3001), -1);
        Check.due("tick 10,001", x.plan(10001, 3000), -1);
        Check.due("GUN of PEN 0", x.told(0, 7), 11);
        Check.due("GUN of PEN 1", x.told(1, 7), 22);
        Check.due("no GUN of PEN 2", x.told(2, 7), -1);
    }

    private static void planBounds() {
        Doc.says(20, "the tick not 0 .. 10,000");
        RunDesk x = new RunDesk();
        x.runner(0, 300, 40, 0, 1, 0);
        int[] mosts = {-1, -2, 3001, 3002, MIN, MAX};
        int[] ticks = {-1, -2, 10001, 10002, 40000, MIN, MAX};
        for (int most : mosts) {
            Check.due("plan(0, " + most + ")", x.plan(0, most), -1);
            for (int tick : ticks) {
                Check.due("plan(" + tick + ", " + most + ")", x.plan(tick, most), -1);
            }
        }
        for (int tick : ticks) {
            Check.due("plan(" + tick + ", 0)", x.plan(tick, 0), -1);
        }
        Check.due("no GUN", x.told(0, 7), -1);
        Check.due("plan(10000, 3000)", x.plan(10000, 3000), 0);
        Check.due("the GUN at 10,000", x.told(0, 7), 10000);
        Check.due("plan(0, 0)", x.plan(0, 0), 0);
        Check.due("the GUN at 0", x.told(0, 7), 0);
    }

    private static void tightAgainAtAnEarlierMat() {
        Doc.says(20, "leaves no MAT TIGHT");
        RunDesk x = new RunDesk();
        x.way(1);
        x.mat(1000, 1);
        x.runner(0, 300, 40, 0, 1, 2);
        x.runner(0, 290, 40, 0, 1, 3);
        // from 50: step 4 makes MAT 1 alone TIGHT (358, 352), step 5 MAT 0 alone (60, 65)
        Check.due("step 27", x.plan(50, 3000), 27);
        Check.due("none up to 26", x.plan(50, 26), -1);
        x.gun(2, 58);
        x.gun(3, 62);
        Check.due("step 4 at MAT 0", x.tight(0), -1);
        Check.due("step 4 at MAT 1", x.tight(1), 5);
        x.gun(2, 60);
        x.gun(3, 65);
        Check.due("step 5 at MAT 0", x.tight(0), 1);
        Check.due("step 5 at MAT 1", x.tight(1), -1);
    }

    private static void planWithOneMat() {
        Doc.says(20, "leaves no MAT TIGHT");
        RunDesk x = new RunDesk();
        x.way(1);
        Check.due("one MAT, no RUNNERS", x.plan(5, 7), 0);
        x.runner(0, 300, 40, 0, 1, 2);
        x.runner(0, 300, 40, 0, 1, 3);
        Check.due("one MAT", x.plan(0, 100), 20);
        Check.due("PEN 2", x.told(0, 7), 40);
        Check.due("PEN 3", x.told(1, 7), 60);
        for (int mat = 1; mat < 12; mat++) {
            x.mat(mat * 9000, mat < 11 ? 2 : 1);
        }
        x.runner(0, 299, 40, 0, 1, 4);
        // MATS 0 and 11 bear one: 160, 240 and 320 there, 29,860, 29,940 and 29,921 here
        Check.due("twelve MATS", x.plan(0, 3000), 80);
        for (int mat = 0; mat < 12; mat++) {
            Check.due("not TIGHT: " + mat, x.tight(mat), -1);
        }
        Check.due("none less", x.plan(0, 79), -1);
    }
}
