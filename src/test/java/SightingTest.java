/** Promises 6 to 13: saw, dead, tear, drop, cut, wave, strike, pardon. */
final class SightingTest {
    private static final int MIN = Integer.MIN_VALUE;
    private static final int MAX = Integer.MAX_VALUE;
    private static final int[] NO_RUNNERS = {-1, 3, 60, MIN, MAX};
    private static final int[] NO_MATS = {-1, 4, 12, MIN, MAX};

    private SightingTest() {
    }

    /** Four MATS, at 0, 1,000, 2,000 and 3,000, and three RUNNERS. */
    static RunDesk desk() {
        RunDesk x = new RunDesk();
        x.mat(2000, 60);
        x.mat(3000, 60);
        x.runner(0, 300, 40, 0, 1, 0);
        x.runner(1, 240, 30, 1, 2, 1);
        x.runner(2, 100, 50, 0, 3, 2);
        return x;
    }

    static void run() {
        saw();
        dead();
        tear();
        drop();
        cut();
        wave();
        strikeAndPardon();
    }

    private static void saw() {
        RunDesk x = desk();
        Check.due("saw at 500", x.saw(0, 1, 500), 1);
        Check.due("saw at 500 again", x.saw(0, 1, 500), 0);
        Check.due("saw at 501", x.saw(0, 1, 501), 0);
        Check.due("the least stays", x.split(0, 1), 500);
        Check.due("saw at 499", x.saw(0, 1, 499), 1);
        Check.due("the SPLIT now", x.split(0, 1), 499);
        Check.due("saw at 0", x.saw(0, 1, 0), 1);
        Check.due("saw at 40,000", x.saw(1, 3, 40000), 1);
        int[] ticks = {-1, 40001, MIN, MAX};
        for (int tick : ticks) {
            Check.due("saw at " + tick, x.saw(0, 2, tick), -1);
        }
        for (int runner : NO_RUNNERS) {
            Check.due("saw runner " + runner, x.saw(runner, 0, 5), -1);
        }
        for (int mat : NO_MATS) {
            Check.due("saw at mat " + mat, x.saw(0, mat, 5), -1);
        }
        Check.due("SPLITS", x.count(5), 2);
        x.strike(0);
        x.drop(0, true);
        Check.due("one who is STRUCK is seen still", x.saw(0, 2, 7), 1);
    }

    private static void dead() {
        RunDesk x = desk();
        x.saw(0, 1, 500);
        Check.yes("dead(1, true)", x.dead(1, true));
        Check.yes("dead(1, true) again", x.dead(1, true));
        Check.due("its SPLITS stay", x.split(0, 1), 500);
        Check.due("a DEAD MAT sees nobody", x.saw(0, 1, 400), -1);
        Check.due("nor one it has seen", x.saw(0, 1, 600), -1);
        Check.due("others see", x.saw(0, 2, 900), 1);
        Check.yes("dead(1, false)", x.dead(1, false));
        Check.due("it sees again", x.saw(0, 1, 400), 1);
        for (int mat : NO_MATS) {
            Check.no("dead(" + mat + ")", x.dead(mat, true));
            Check.no("not dead(" + mat + ")", x.dead(mat, false));
        }
    }

    private static void tear() {
        RunDesk x = desk();
        for (int mat = 0; mat < 4; mat++) {
            x.saw(0, mat, 100 + 300 * mat);
            x.saw(1, mat, 100 + 300 * mat);
        }
        Check.due("not TORN", x.told(0, 13), -1);
        Check.yes("tear(0, 3)", x.tear(0, 3));
        Check.due("gone", x.split(0, 3), -1);
        Check.due("there still", x.split(0, 2), 700);
        Check.yes("tear(0, 1)", x.tear(0, 1));
        Check.due("from an earlier one", x.told(0, 13), 1);
        Check.due("gone from there", x.split(0, 1), -1);
        Check.yes("tear(0, 2)", x.tear(0, 2));
        Check.due("not from a later one", x.told(0, 13), 1);
        Check.due("nothing comes at 1", x.saw(0, 1, 5), -1);
        Check.due("nothing comes at 3", x.saw(0, 3, 5), -1);
        Check.due("ahead it comes", x.saw(0, 0, 5), 1);
        Check.due("the others' rows stay", x.split(1, 3), 1000);
        x.mat(4000, 5);
        Check.due("nothing comes at a new MAT", x.saw(0, 4, 5), -1);
        Check.due("at others' it does", x.saw(1, 4, 5), 1);
        Check.yes("tear(0, 0)", x.tear(0, 0));
        Check.due("TORN from 0 on", x.told(0, 13), 0);
        Check.due("no SPLIT at all", x.split(0, 0), -1);
        x.gun(0, 33);
        Check.due("the START is the GUN's", x.told(0, 7), 33);
        RunDesk z = new RunDesk();
        for (int mat = 2; mat < 12; mat++) {
            z.mat(mat * 1000, 5);
        }
        z.runner(0, 300, 40, 0, 1, 0);
        z.saw(0, 11, 5000);
        Check.yes("tear(0, 11)", z.tear(0, 11));
        Check.due("the twelfth is gone", z.split(0, 11), -1);
        RunDesk y = desk();
        for (int runner : NO_RUNNERS) {
            Check.no("tear(" + runner + ", 0)", y.tear(runner, 0));
        }
        for (int mat : NO_MATS) {
            Check.no("tear(0, " + mat + ")", y.tear(0, mat));
        }
        Check.due("not TORN by these", y.told(0, 13), -1);
    }

    private static void drop() {
        RunDesk x = desk();
        x.saw(0, 0, 5);
        Check.yes("drop(0, true)", x.drop(0, true));
        Check.due("DROPPED", x.told(0, 6), 3);
        Check.yes("drop(0, true) again", x.drop(0, true));
        Check.due("the others not", x.told(1, 6), 0);
        Check.yes("drop(0, false)", x.drop(0, false));
        Check.due("goes on", x.told(0, 6), 1);
        for (int runner : NO_RUNNERS) {
            Check.no("drop(" + runner + ")", x.drop(runner, true));
            Check.no("goes on(" + runner + ")", x.drop(runner, false));
        }
    }

    private static void cut() {
        RunDesk x = desk();
        x.saw(0, 1, 500);
        Check.yes("cut(1, 500)", x.cut(1, 500));
        Check.due("at its tick one is not OUT", x.told(0, 6), 0);
        Check.yes("cut(1, 499)", x.cut(1, 499));
        Check.due("behind it one is", x.told(0, 6), 5);
        Check.yes("cut(1, 501)", x.cut(1, 501));
        Check.due("another one instead", x.told(0, 6), 0);
        Check.yes("cut(1, 0)", x.cut(1, 0));
        Check.due("OUT", x.told(0, 6), 5);
        int[] ticks = {-2, 40001, MIN, MAX};
        for (int tick : ticks) {
            Check.no("cut(1, " + tick + ")", x.cut(1, tick));
        }
        for (int mat : NO_MATS) {
            Check.no("cut(" + mat + ", 5)", x.cut(mat, 5));
            Check.no("cut(" + mat + ", NONE)", x.cut(mat, -1));
        }
        Check.due("OUT still", x.told(0, 6), 5);
        Check.yes("cut(1, NONE)", x.cut(1, -1));
        Check.due("no CUT", x.told(0, 6), 0);
        Check.yes("cut(3, 40000)", x.cut(3, 40000));
        x.gun(0, 50);
        x.cut(0, 40);
        Check.due("a START by the GUN is no SPLIT behind the CUT", x.told(0, 6), 1);
        x.saw(0, 0, 41);
        Check.due("a SPLIT of MAT 0 is", x.told(0, 6), 5);
    }

    private static void wave() {
        RunDesk x = desk();
        x.saw(0, 1, 500);
        x.saw(0, 2, 900);
        x.cut(1, 400);
        x.cut(2, 800);
        Check.yes("wave(0, true)", x.wave(0, true));
        Check.due("through all CUTS", x.told(0, 6), 0);
        Check.yes("wave(0, false)", x.wave(0, false));
        Check.due("OUT", x.told(0, 6), 5);
        Check.yes("wave(1, true)", x.wave(1, true));
        Check.due("another one's wave", x.told(0, 6), 5);
        for (int runner : NO_RUNNERS) {
            Check.no("wave(" + runner + ")", x.wave(runner, true));
            Check.no("not wave(" + runner + ")", x.wave(runner, false));
        }
    }

    private static void strikeAndPardon() {
        RunDesk x = desk();
        Check.due("nothing to take back", x.pardon(), -1);
        Check.yes("strike(2)", x.strike(2));
        Check.yes("strike(0)", x.strike(0));
        Check.no("strike(2) again", x.strike(2));
        for (int runner : NO_RUNNERS) {
            Check.no("strike(" + runner + ")", x.strike(runner));
        }
        Check.due("two strikings", x.count(4), 2);
        Check.due("STRUCK", x.told(0, 6), 4);
        Check.due("the latest", x.pardon(), 0);
        Check.due("STRUCK no more", x.told(0, 6), 0);
        Check.yes("strike(1)", x.strike(1));
        Check.yes("strike(0) again", x.strike(0));
        Check.due("back 0", x.pardon(), 0);
        Check.due("back 1", x.pardon(), 1);
        Check.due("STRUCK still", x.told(2, 6), 4);
        Check.due("back 2", x.pardon(), 2);
        Check.due("STRUCK no more 2", x.told(2, 6), 0);
        Check.due("none left", x.pardon(), -1);
        Check.due("no strikings", x.count(4), 0);
        RunDesk y = new RunDesk();
        for (int runner = 0; runner < 60; runner++) {
            y.runner(0, 300, 40, 0, 1, 0);
            Check.yes("strike(" + runner + ")", y.strike(runner));
        }
        for (int runner = 59; runner >= 0; runner--) {
            Check.due("pardon", y.pardon(), runner);
        }
        Check.due("pardon after all", y.pardon(), -1);
    }
}
