import java.util.Arrays;
import java.util.NoSuchElementException;

/** The boundary cases of promises 1 to 15, 31 and 32, sentence by sentence. */
final class PromiseEdgesTest {
    private static final int MIN = Integer.MIN_VALUE;
    private static final int MAX = Integer.MAX_VALUE;
    private static final int[] NO_RUNNERS = {-1, -2, 3, 4, 59, 60, MIN, MAX};
    private static final int[] NO_MATS = {-1, -2, 4, 5, 11, 12, MIN, MAX};

    private PromiseEdgesTest() {
    }

    static void run() {
        newObject();
        twoObjects();
        wayAlone();
        allGoes();
        theTextStays();
        noSuchWay();
        oneMoreMat();
        noMoreMats();
        noMoreRunners();
        anotherGun();
        noSuchGun();
        sawAtThatTickOrAhead();
        sawNone();
        deadFromNowOn();
        noSuchDead();
        tornFromAnEarlierOne();
        noSuchTear();
        droppedOrGoesOn();
        anotherCut();
        noSuchCut();
        waved();
        struckAlready();
        latestStriking();
        toldNone();
        overPace();
        startIsTheGuns();
        noSuchSplit();
        keptInsteadOfBefore();
        backStaysKept();
        allIsAsItWasKept();
        nothingKept();
    }

    private static void newObject() {
        Doc.says(1, "MATS at 0 and 1,000 metres that bear 60; no RUNNERS.");
        RunDesk x = new RunDesk();
        Check.due("MATS", x.count(0), 2);
        Check.due("the PLACE of MAT 1", x.count(6), 1000);
        Check.due("RUNNERS", x.count(1), 0);
        Check.no("RUNNER 0", x.drop(0, true));
        x.gun(0, 0);
        for (int runner = 0; runner < 60; runner++) {
            x.runner(0, 60, 0, 0, 0, 0);
        }
        Check.due("60 at MAT 0", x.tight(0), -1);
        Check.due("60 at MAT 1", x.tight(1), -1);
        Check.due("all of them in one minute", x.foretold(1, 1), 60);
        Check.due("none has a SPLIT", x.count(5), 0);
    }

    private static void twoObjects() {
        Doc.says(1, "`RunDesk()`");
        RunDesk x = new RunDesk();
        x.way(1);
        x.runner(0, 300, 40, 0, 1, 0);
        Check.feed(x, "s=0;n");
        x.image();
        RunDesk y = new RunDesk();
        Check.due("MATS of another object", y.count(0), 2);
        Check.due("RUNNERS of it", y.count(1), 0);
        Check.due("bytes of it", y.count(3), 0);
        Check.yes("nothing is kept in it", backThrows(y));
        Check.due("the first one has its own", x.count(1), 1);
    }

    private static void wayAlone() {
        Doc.says(2, "The WAY is a new one: MAT 0 alone, bearing so many");
        RunDesk x = SightingTest.desk();
        Check.yes("way(2)", x.way(2));
        Check.due("MATS", x.count(0), 1);
        Check.yes("MAT 0", x.dead(0, false));
        Check.no("MAT 1", x.dead(1, false));
        for (int runner = 0; runner < 3; runner++) {
            Check.due("it bears two", x.tight(0), -1);
            x.runner(0, 300, 40, 0, 1, 0);
            x.gun(0, 0);
        }
        Check.due("not three", x.tight(0), 0);
        Check.due("the next MAT is 1", x.mat(1, 1), 1);
        Check.yes("way again", x.way(1000));
        Check.due("MATS again", x.count(0), 1);
    }

    private static void allGoes() {
        Doc.says(2, "RUNNERS (with all that was seen, STRUCK), GUNS, CUTS, DEAD go");
        RunDesk x = SightingTest.desk();
        for (int runner = 0; runner < 3; runner++) {
            x.saw(runner, 0, 3);
            x.saw(runner, 1, 3);
            x.tear(runner, 1);
            x.drop(runner, true);
            x.wave(runner, true);
            x.strike(runner);
        }
        for (int mat = 0; mat < 4; mat++) {
            x.dead(mat, true);
            x.cut(mat, 0);
        }
        for (int pen = 0; pen < 6; pen++) {
            x.gun(pen, 0);
        }
        x.way(9);
        Check.due("RUNNERS", x.count(1), 0);
        Check.due("DOUBTS", x.count(2), 0);
        Check.due("strikings", x.count(4), 0);
        Check.due("SPLITS", x.count(5), 0);
        Check.due("nothing to take back", x.pardon(), -1);
        for (int mat = 1; mat < 4; mat++) {
            x.mat(mat * 1000, 9);
        }
        for (int pen = 0; pen < 6; pen++) {
            x.runner(0, 300, 40, 0, 1, pen);
            Check.due("STATE", x.told(pen, 6), 0);
            Check.due("START", x.told(pen, 7), -1);
            Check.due("TORN", x.told(pen, 13), -1);
        }
        for (int mat = 0; mat < 4; mat++) {
            Check.due("not DEAD, not TORN: " + mat, x.saw(0, mat, 500 * mat + 1), 1);
        }
        Check.due("no CUT", x.told(0, 6), 2);
        x.cut(1, 0);
        Check.due("not waved through", x.told(0, 6), 5);
    }

    private static void theTextStays() {
        Doc.says(2, "the TEXT stays");
        RunDesk x = new RunDesk();
        Check.feed(x, "s=0;n;2");
        x.way(9);
        Check.due("its bytes", x.count(3), 7);
        Check.due("no FAULT", x.fault(), -1);
        Check.due("nobody in it", x.many(), 0);
    }

    private static void noSuchWay() {
        Doc.says(2, "False: out of bounds.");
        RunDesk x = SightingTest.desk();
        int[] wrong = {0, -1, 1001, MIN, MAX};
        for (int bears : wrong) {
            Check.no("way(" + bears + ")", x.way(bears));
            Check.due("MATS stay", x.count(0), 4);
            Check.due("RUNNERS stay", x.count(1), 3);
        }
    }

    private static void oneMoreMat() {
        Doc.says(3, "One more MAT: its number.");
        RunDesk x = new RunDesk();
        x.runner(0, 300, 40, 0, 1, 0);
        x.saw(0, 0, 0);
        x.saw(0, 1, 300);
        Check.due("IN", x.told(0, 6), 2);
        Check.due("the third", x.mat(1001, 9), 2);
        Check.due("it is the last MAT now", x.told(0, 6), 1);
        Check.due("no SPLIT there", x.split(0, 2), -1);
        Check.due("it is not DEAD", x.saw(0, 2, 301), 1);
        Check.due("it has no CUT: IN", x.told(0, 6), 2);
        Check.due("TIME to it", x.told(0, 9), 301);
    }

    private static void noMoreMats() {
        Doc.says(3, "NONE: there are twelve, a PLACE not beyond the last one's or above 100,000, bears.");
        RunDesk x = new RunDesk();
        int[] places = {1000, 999, 1, 0, -1, 100001, MIN, MAX};
        for (int place : places) {
            Check.due("mat(" + place + ", 9)", x.mat(place, 9), -1);
        }
        int[] bears = {0, -1, 1001, MIN, MAX};
        for (int bearing : bears) {
            Check.due("mat(2000, " + bearing + ")", x.mat(2000, bearing), -1);
        }
        Check.due("two still", x.count(0), 2);
        x.mat(100000, 9);
        Check.due("beyond 100,000", x.mat(100001, 9), -1);
        Check.due("at it", x.mat(100000, 9), -1);
        x.way(1);
        for (int mat = 1; mat < 12; mat++) {
            Check.due("mat " + mat, x.mat(mat, 9), mat);
        }
        Check.due("there are twelve", x.mat(12, 9), -1);
        Check.due("the last PLACE", x.count(6), 11);
    }

    private static void noMoreRunners() {
        Doc.says(4, "NONE: there are 60, or a number is out of its bounds.");
        RunDesk x = new RunDesk();
        int[] a = {0, 60, 0, 0, 0, 0};
        for (int fact = 0; fact < 6; fact++) {
            int right = a[fact];
            int[] wrong = {fact == 1 ? 59 : -1, fact == 1 ? 2001 : 100, MIN, MAX};
            for (int value : wrong) {
                a[fact] = value;
                Check.due("fact " + fact + " " + value, x.runner(a[0], a[1], a[2], a[3], a[4], a[5]), -1);
            }
            a[fact] = right;
        }
        Check.due("none there", x.count(1), 0);
        for (int runner = 0; runner < 60; runner++) {
            Check.due("runner " + runner, x.runner(0, 60, 0, 0, 0, 0), runner);
        }
        Check.due("there are 60", x.runner(0, 60, 0, 0, 0, 0), -1);
        x.strike(0);
        x.drop(1, true);
        Check.due("60 with the STRUCK and DROPPED", x.runner(0, 60, 0, 0, 0, 0), -1);
        x.way(1);
        Check.due("on a new WAY", x.runner(0, 60, 0, 0, 0, 0), 0);
    }

    private static void anotherGun() {
        Doc.says(5, "A PEN's GUN (another one instead; NONE: none).");
        RunDesk x = SightingTest.desk();
        int[] ticks = {40000, 0, 5, 5, 4, -1, -1, 40000, -1};
        for (int tick : ticks) {
            Check.yes("gun(0, " + tick + ")", x.gun(0, tick));
            Check.due("START", x.told(0, 7), tick);
            Check.due("another PEN has none", x.told(1, 7), -1);
        }
    }

    private static void noSuchGun() {
        Doc.says(5, "False: out of bounds.");
        RunDesk x = SightingTest.desk();
        x.gun(0, 7);
        int[] pens = {-1, -2, 6, 7, MIN, MAX};
        for (int pen : pens) {
            Check.no("gun(" + pen + ", 9)", x.gun(pen, 9));
            Check.no("gun(" + pen + ", -1)", x.gun(pen, -1));
        }
        int[] ticks = {-2, -3, 40001, 40002, MIN, MAX};
        for (int tick : ticks) {
            Check.no("gun(0, " + tick + ")", x.gun(0, tick));
        }
        Check.due("the GUN stays", x.told(0, 7), 7);
        Check.yes("gun(5, 40000)", x.gun(5, 40000));
    }

    private static void sawAtThatTickOrAhead() {
        Doc.says(6, "1 if that is its SPLIT now, 0 if it has one at that tick or ahead (the least stays)");
        RunDesk x = SightingTest.desk();
        int[] ticks = {40000, 40000, 39999, 40000, 2, 3, 2, 1, 0, 0, 1};
        int[] want = {1, 0, 1, 0, 1, 0, 0, 1, 1, 0, 0};
        int least = 40001;
        for (int i = 0; i < ticks.length; i++) {
            least = Math.min(least, ticks[i]);
            Check.due("saw at " + ticks[i], x.saw(0, 0, ticks[i]), want[i]);
            Check.due("SPLIT", x.split(0, 0), least);
        }
        x.gun(1, 5);
        Check.due("behind the GUN it is the SPLIT, too", x.saw(1, 0, 6), 1);
        Check.due("SPLITS", x.count(5), 2);
    }

    private static void sawNone() {
        Doc.says(6, "NONE: no such RUNNER, MAT, tick; the MAT is DEAD; the row is TORN there.");
        RunDesk x = SightingTest.desk();
        for (int runner : NO_RUNNERS) {
            Check.due("saw(" + runner + ", 0, 5)", x.saw(runner, 0, 5), -1);
        }
        for (int mat : NO_MATS) {
            Check.due("saw(0, " + mat + ", 5)", x.saw(0, mat, 5), -1);
        }
        int[] ticks = {-1, -2, 40001, 40002, MIN, MAX};
        for (int tick : ticks) {
            Check.due("saw(0, 0, " + tick + ")", x.saw(0, 0, tick), -1);
        }
        x.dead(2, true);
        Check.due("DEAD", x.saw(0, 2, 5), -1);
        Check.due("ahead of it", x.saw(0, 1, 5), 1);
        Check.due("behind it", x.saw(0, 3, 5), 1);
        x.tear(1, 2);
        x.dead(2, false);
        Check.due("TORN there", x.saw(1, 2, 5), -1);
        Check.due("TORN behind", x.saw(1, 3, 5), -1);
        Check.due("not TORN ahead", x.saw(1, 1, 5), 1);
        Check.due("another row is whole", x.saw(2, 2, 5), 1);
        Check.due("SPLITS", x.count(5), 4);
    }

    private static void deadFromNowOn() {
        Doc.says(7, "A MAT is DEAD from now on, or not (its SPLITS stay; MATS are not at first).");
        RunDesk x = SightingTest.desk();
        for (int mat = 0; mat < 4; mat++) {
            Check.due("not at first", x.saw(0, mat, 700), 1);
            Check.yes("dead", x.dead(mat, true));
            Check.due("its SPLIT stays", x.split(0, mat), 700);
            Check.due("an earlier one does not come", x.saw(0, mat, 600), -1);
            Check.yes("dead again", x.dead(mat, true));
            Check.due("DEAD still", x.saw(0, mat, 600), -1);
            Check.yes("not dead", x.dead(mat, false));
            Check.yes("not dead again", x.dead(mat, false));
            Check.due("now it comes", x.saw(0, mat, 600), 1);
        }
        Check.due("a DEAD MAT's SPLIT counts: IN", x.told(0, 6), 2);
        x.dead(3, true);
        Check.due("IN still", x.told(0, 6), 2);
        x.mat(4000, 9);
        Check.due("a new MAT is not DEAD", x.saw(0, 4, 1), 1);
    }

    private static void noSuchDead() {
        Doc.says(7, "False: no such MAT.");
        RunDesk x = SightingTest.desk();
        for (int mat : NO_MATS) {
            Check.no("dead(" + mat + ", true)", x.dead(mat, true));
            Check.no("dead(" + mat + ", false)", x.dead(mat, false));
        }
        for (int mat = 4; mat < 12; mat++) {
            x.mat(mat * 1000, 9);
            Check.due("the MAT that came is not DEAD", x.saw(0, mat, 5), 1);
        }
    }

    private static void tornFromAnEarlierOne() {
        Doc.says(8, "A RUNNER's row is TORN from a MAT on (what was there is gone; from an earlier one, if told again).");
        RunDesk x = SightingTest.desk();
        int[] told = {3, 3, 2, 3, 0, 1, 3, 0};
        int earliest = 4;
        for (int mat = 0; mat < 4; mat++) {
            x.saw(0, mat, 5);
        }
        Check.due("not TORN", x.told(0, 13), -1);
        for (int mat : told) {
            earliest = Math.min(earliest, mat);
            Check.yes("tear(0, " + mat + ")", x.tear(0, mat));
            Check.due("TORN from", x.told(0, 13), earliest);
            Check.due("SPLITS", x.count(5), earliest);
        }
        Check.due("another row is not TORN", x.told(1, 13), -1);
        x.mat(4000, 9);
        Check.due("nor does it come at a later MAT", x.saw(0, 4, 5), -1);
    }

    private static void noSuchTear() {
        Doc.says(8, "False: no such.");
        RunDesk x = SightingTest.desk();
        for (int mat = 0; mat < 4; mat++) {
            x.saw(0, mat, 5);
        }
        for (int runner : NO_RUNNERS) {
            Check.no("tear(" + runner + ", 0)", x.tear(runner, 0));
        }
        for (int mat : NO_MATS) {
            Check.no("tear(0, " + mat + ")", x.tear(0, mat));
        }
        Check.due("SPLITS", x.count(5), 4);
        Check.due("not TORN", x.told(0, 13), -1);
        x.mat(4000, 9);
        Check.due("nor at a MAT that came", x.saw(0, 4, 5), 1);
    }

    private static void droppedOrGoesOn() {
        Doc.says(9, "A RUNNER DROPPED, or goes on. False: no such one.");
        RunDesk x = SightingTest.desk();
        boolean[] told = {false, true, true, false, false, true};
        for (boolean is : told) {
            Check.yes("drop(2, " + is + ")", x.drop(2, is));
            Check.due("STATE", x.told(2, 6), is ? 3 : 0);
        }
        for (int runner : NO_RUNNERS) {
            Check.no("drop(" + runner + ", true)", x.drop(runner, true));
            Check.no("drop(" + runner + ", false)", x.drop(runner, false));
        }
        Check.due("one DROPPED", x.state(3), 1);
        x.runner(0, 300, 40, 0, 1, 0);
        Check.due("the RUNNER that came is not", x.told(3, 6), 0);
    }

    private static void anotherCut() {
        Doc.says(10, "A MAT's CUT (another one instead; NONE: none).");
        RunDesk x = SightingTest.desk();
        x.saw(0, 1, 500);
        int[] ticks = {499, 500, 0, 501, 40000, 499, -1, -1};
        for (int tick : ticks) {
            Check.yes("cut(1, " + tick + ")", x.cut(1, tick));
            Check.due("STATE", x.told(0, 6), tick >= 0 && tick < 500 ? 5 : 0);
        }
        x.cut(0, 0);
        x.cut(2, 0);
        x.cut(3, 0);
        Check.due("CUTS of other MATS", x.told(0, 6), 0);
    }

    private static void noSuchCut() {
        Doc.says(10, "False: out of bounds.");
        RunDesk x = SightingTest.desk();
        x.saw(0, 1, 500);
        for (int mat : NO_MATS) {
            Check.no("cut(" + mat + ", 0)", x.cut(mat, 0));
            Check.no("cut(" + mat + ", -1)", x.cut(mat, -1));
        }
        int[] ticks = {-2, -3, 40001, 40002, MIN, MAX};
        for (int tick : ticks) {
            Check.no("cut(1, " + tick + ")", x.cut(1, tick));
        }
        Check.due("no CUT", x.told(0, 6), 0);
        x.mat(4000, 9);
        x.saw(0, 4, 600);
        Check.due("the MAT that came has none", x.told(0, 6), 2);
    }

    private static void waved() {
        Doc.says(11, "A RUNNER is waved through all CUTS, or not. False: no such one.");
        RunDesk x = SightingTest.desk();
        for (int mat = 0; mat < 4; mat++) {
            x.saw(0, mat, 500);
            x.saw(1, mat, 500);
            x.cut(mat, 499);
        }
        boolean[] told = {false, true, true, false, true};
        for (boolean is : told) {
            Check.yes("wave(0, " + is + ")", x.wave(0, is));
            Check.due("STATE", x.told(0, 6), is ? 2 : 5);
            Check.due("another one is OUT", x.told(1, 6), 5);
        }
        x.cut(2, 0);
        Check.due("through a CUT that came later, too", x.told(0, 6), 2);
        for (int runner : NO_RUNNERS) {
            Check.no("wave(" + runner + ", true)", x.wave(runner, true));
            Check.no("wave(" + runner + ", false)", x.wave(runner, false));
        }
    }

    private static void struckAlready() {
        Doc.says(12, "A RUNNER is STRUCK: false: no such one, or STRUCK already.");
        RunDesk x = SightingTest.desk();
        for (int runner : NO_RUNNERS) {
            Check.no("strike(" + runner + ")", x.strike(runner));
        }
        Check.due("no strikings", x.count(4), 0);
        Check.yes("strike(0)", x.strike(0));
        Check.no("STRUCK already", x.strike(0));
        Check.due("one striking", x.count(4), 1);
        x.pardon();
        Check.yes("STRUCK no more", x.strike(0));
        RunDesk y = new RunDesk();
        for (int runner = 0; runner < 60; runner++) {
            y.runner(0, 300, 40, 0, 1, 0);
            Check.yes("strike(" + runner + ")", y.strike(runner));
        }
        for (int runner = 0; runner < 60; runner++) {
            Check.no("all are STRUCK", y.strike(runner));
        }
        Check.due("60 strikings", y.count(4), 60);
        Check.due("60 STRUCK", y.state(4), 60);
        Check.due("the latest", y.pardon(), 59);
        Check.yes("once more", y.strike(59));
        Check.due("60 again", y.count(4), 60);
    }

    private static void latestStriking() {
        Doc.says(13, "The latest striking that was not taken back is taken back: its RUNNER; NONE.");
        RunDesk x = SightingTest.desk();
        Check.due("none", x.pardon(), -1);
        x.strike(1);
        x.strike(0);
        x.strike(2);
        Check.due("2", x.pardon(), 2);
        Check.due("0", x.pardon(), 0);
        x.strike(2);
        Check.due("2 again", x.pardon(), 2);
        Check.due("1", x.pardon(), 1);
        Check.due("none left", x.pardon(), -1);
        Check.due("none left, again", x.pardon(), -1);
        Check.due("nobody STRUCK", x.state(4), 0);
        Check.due("no strikings", x.count(4), 0);
    }

    private static void toldNone() {
        Doc.says(14, "NONE where there is none, for others, or if there is none such.");
        RunDesk x = SightingTest.desk();
        for (int what = 6; what < 14; what++) {
            Check.due("before all: told(1, " + what + ")", x.told(1, what), what == 6 ? 0 : -1);
        }
        x.gun(1, 0);
        x.saw(1, 3, 700);
        x.tear(2, 1);
        int[] want = {1, 240, 30, 1, 2, 1, 2, 0, 3, 700, 700, 1, -20, -1};
        for (int what = 0; what < 14; what++) {
            Check.due("told(1, " + what + ")", x.told(1, what), want[what]);
        }
        int[] others = {-1, -2, 14, 15, MIN, MAX};
        for (int what : others) {
            Check.due("told(1, " + what + ")", x.told(1, what), -1);
        }
        for (int runner : NO_RUNNERS) {
            for (int what = -1; what < 15; what++) {
                Check.due("told(" + runner + ", " + what + ")", x.told(runner, what), -1);
            }
        }
        x.runner(0, 60, 0, 0, 0, 0);
        Check.due("TEAM 0 is told as it is", x.told(3, 4), 0);
    }

    private static void overPace() {
        Doc.says(14, "12 of one who is PACED and IN: TIME less what PACE makes of the whole WAY (cut; below 0 possible)");
        RunDesk x = new RunDesk();
        x.way(9);
        x.mat(999, 9);
        for (int kind = 0; kind < 4; kind++) {
            x.runner(kind, 1001, 40, 0, 1, 0);
            x.saw(kind, 0, 0);
            Check.due("not IN", x.told(kind, 12), -1);
            x.saw(kind, 1, 1000);
            // 999 metres at 1,001 make 999.999 seconds
            Check.due("KIND " + kind, x.told(kind, 12), kind == 1 ? 1 : -1);
        }
        x.saw(1, 1, 999);
        Check.due("as PACE", x.told(1, 12), 0);
        x.saw(1, 1, 998);
        Check.due("below 0", x.told(1, 12), -1);
        x.saw(1, 1, 997);
        Check.due("more below 0", x.told(1, 12), -2);
        x.saw(1, 1, 0);
        Check.due("TIME 0", x.told(1, 12), -999);
        x.drop(1, true);
        Check.due("DROPPED", x.told(1, 12), -1);
        RunDesk far = new RunDesk();
        far.mat(100000, 9);
        far.runner(1, 2000, 40, 0, 1, 0);
        far.saw(0, 2, 40000);
        Check.due("without a START", far.told(0, 12), -1);
        far.gun(0, 40000);
        Check.due("the least", far.told(0, 12), -200000);
        far.gun(0, 0);
        Check.due("the whole WAY", far.told(0, 12), -160000);
    }

    private static void startIsTheGuns() {
        Doc.says(14, "11 whether the START is the GUN's (1)");
        RunDesk x = SightingTest.desk();
        Check.due("no START", x.told(0, 11), -1);
        x.gun(0, 0);
        Check.due("the GUN's", x.told(0, 11), 1);
        x.saw(0, 0, 0);
        Check.due("the SPLIT's, at the same tick", x.told(0, 11), 0);
        x.gun(0, -1);
        Check.due("the SPLIT's, without a GUN", x.told(0, 11), 0);
        x.tear(0, 0);
        Check.due("no START again", x.told(0, 11), -1);
        x.gun(0, 9);
        Check.due("the GUN's again", x.told(0, 11), 1);
    }

    private static void noSuchSplit() {
        Doc.says(15, "A SPLIT; NONE.");
        RunDesk x = SightingTest.desk();
        x.gun(0, 9);
        for (int runner = 0; runner < 3; runner++) {
            for (int mat = 0; mat < 4; mat++) {
                Check.due("none yet", x.split(runner, mat), -1);
                x.saw(runner, mat, runner * 4 + mat);
                Check.due("the SPLIT", x.split(runner, mat), runner * 4 + mat);
            }
        }
        for (int runner : NO_RUNNERS) {
            Check.due("split(" + runner + ", 0)", x.split(runner, 0), -1);
        }
        for (int mat : NO_MATS) {
            Check.due("split(0, " + mat + ")", x.split(0, mat), -1);
            Check.due("split(2, " + mat + ")", x.split(2, mat), -1);
        }
    }

    private static boolean backThrows(RunDesk x) {
        try {
            x.back();
            return false;
        } catch (NoSuchElementException e) {
            return true;
        }
    }

    private static void keptInsteadOfBefore() {
        Doc.says(31, "All but the TEXT is kept as it is, instead of what was kept before.");
        RunDesk x = SightingTest.desk();
        x.image();
        x.drop(0, true);
        x.image();
        x.drop(1, true);
        x.image();
        x.drop(2, true);
        Check.feed(x, "s=0");
        x.back();
        Check.due("as it was kept last", x.state(3), 2);
        Check.due("the TEXT is not kept", x.count(3), 3);
        x.way(1);
        x.image();
        x.mat(5, 5);
        x.back();
        Check.due("one MAT was kept", x.count(0), 1);
    }

    private static void backStaysKept() {
        Doc.says(32, "All but the TEXT is as it was kept (that stays kept).");
        RunDesk x = SightingTest.desk();
        x.saw(0, 3, 5);
        x.strike(1);
        x.image();
        for (int i = 0; i < 5; i++) {
            x.way(7);
            x.runner(0, 60, 0, 0, 0, 0);
            x.strike(0);
            x.cut(0, 0);
            x.gun(0, 0);
            Check.feed(x, "s=0;n");
            Check.no("back", backThrows(x));
            Check.due("MATS", x.count(0), 4);
            Check.due("RUNNERS", x.count(1), 3);
            Check.due("SPLITS", x.count(5), 1);
            Check.due("strikings", x.count(4), 1);
            Check.due("no GUN", x.told(0, 7), -1);
            Check.due("the TEXT is as it is", x.count(3), 5 * (i + 1));
            Check.due("the striking can be taken back", x.pardon(), 1);
            x.tear(0, 0);
        }
    }

    /** After back() the desk tells all that it told when it was kept, whatever came between. */
    private static void allIsAsItWasKept() {
        Doc.says(32, "All but the TEXT is as it was kept");
        for (int kind = 0; kind < 4; kind++) {
            RunDesk kept = RefusedTest.desk(kind);
            kept.image();
            int[] due = new Whole().of(kept);
            for (int other = 0; other < 3; other++) {
                RunDesk x = RefusedTest.desk(kind);
                x.image();
                changeAll(x, other);
                x.back();
                int differs = Arrays.mismatch(due, new Whole().of(x));
                Check.due("desk " + kind + ", change " + other + ": answer that is not as kept", differs, -1);
            }
        }
    }

    private static void changeAll(RunDesk x, int other) {
        if (other == 1) {
            x.way(500);
            for (int mat = 1; mat < 12; mat++) {
                x.mat(mat * 7, 500);
            }
        }
        if (other == 2) {
            x.way(3);
        }
        for (int runner = 0; runner < 9; runner++) {
            x.runner(2, 77, 7, 1, 7, 4);
            x.saw(runner, 0, 1);
            x.saw(runner, 3, 1);
            x.tear(runner, 1 + runner % 3);
            x.drop(runner, runner != 3);
            x.wave(runner, runner != 4);
            x.strike(runner);
        }
        for (int mat = 0; mat < 12; mat++) {
            x.dead(mat, mat != 1);
            x.cut(mat, mat);
        }
        for (int pen = 0; pen < 6; pen++) {
            x.gun(pen, 3 + pen);
        }
    }

    private static void nothingKept() {
        Doc.says(32, "NoSuchElementException: nothing is kept.");
        RunDesk x = SightingTest.desk();
        Check.yes("nothing is kept", backThrows(x));
        Check.yes("nor now", backThrows(x));
        Check.due("MATS stay", x.count(0), 4);
        x.way(5);
        Check.yes("nor on a new WAY", backThrows(x));
        Check.due("the new WAY stays", x.count(0), 1);
        x.image();
        Check.no("now it is", backThrows(x));
        x.way(5);
        Check.no("over a new WAY, too", backThrows(x));
    }
}
