/** Promises 1 to 5: a new object, way, mat, runner, gun. */
final class SetUpTest {
    private static final int MIN = Integer.MIN_VALUE;
    private static final int MAX = Integer.MAX_VALUE;

    private SetUpTest() {
    }

    static void run() {
        newObject();
        newObjectBearsSixty();
        way();
        wayTakesAllWithIt();
        oneMatAloneIsNoLastMat();
        mat();
        runner();
        gun();
    }

    private static void newObject() {
        RunDesk x = new RunDesk();
        Check.due("new: MATS", x.count(0), 2);
        Check.due("new: RUNNERS", x.count(1), 0);
        Check.due("new: DOUBTS", x.count(2), 0);
        Check.due("new: bytes", x.count(3), 0);
        Check.due("new: strikings", x.count(4), 0);
        Check.due("new: SPLITS", x.count(5), 0);
        Check.due("new: last PLACE", x.count(6), 1000);
        Check.due("new: state(0)", x.state(0), 0);
        Check.due("new: fault()", x.fault(), 0);
        Check.due("new: pardon()", x.pardon(), -1);
        x.runner(0, 300, 40, 0, 1, 0);
        for (int pen = 0; pen < 6; pen++) {
            Check.due("new: runner", x.runner(0, 300, 40, 0, 1, pen), pen + 1);
            Check.due("new: no GUN, so no START", x.told(pen + 1, 7), -1);
        }
        Check.due("new: MAT 0 is not DEAD", x.saw(0, 0, 10), 1);
        Check.due("new: MAT 1 is not DEAD", x.saw(0, 1, 40000), 1);
        Check.due("new: no CUT", x.told(0, 6), 2);
    }

    private static void newObjectBearsSixty() {
        // MAT 1 would be TIGHT with more than 60 alone, which the desk cannot have: a shorter bearing
        // is told apart by 60 who pass in one minute
        RunDesk x = new RunDesk();
        for (int i = 0; i < 60; i++) {
            x.runner(0, 300, 40, 0, 1, 0);
        }
        x.gun(0, 0);
        Check.due("60 in one minute", x.foretold(1, 5), 60);
        Check.due("60 are borne at MAT 0", x.tight(0), -1);
        Check.due("60 are borne at MAT 1", x.tight(1), -1);
    }

    private static void way() {
        RunDesk x = new RunDesk();
        int[] refused = {0, -1, 1001, MIN, MAX};
        for (int bears : refused) {
            Check.no("way(" + bears + ")", x.way(bears));
        }
        Check.due("a refused way changes nothing", x.count(0), 2);
        Check.yes("way(1)", x.way(1));
        Check.due("way: MAT 0 alone", x.count(0), 1);
        x.runner(0, 300, 40, 0, 1, 0);
        x.runner(0, 300, 40, 0, 1, 0);
        x.gun(0, 120);
        Check.due("way(1) bears one", x.tight(0), 2);
        Check.yes("way(1000)", x.way(1000));
        Check.due("way(1000): RUNNERS", x.count(1), 0);
    }

    private static void wayTakesAllWithIt() {
        RunDesk x = new RunDesk();
        Check.feed(x, "s=0;n");
        x.runner(0, 300, 40, 0, 1, 0);
        x.runner(0, 300, 40, 0, 1, 0);
        x.gun(0, 100);
        x.saw(0, 1, 500);
        x.cut(0, 50);
        x.cut(1, 50);
        x.dead(0, true);
        x.dead(1, true);
        x.tear(1, 0);
        x.drop(1, true);
        x.wave(0, true);
        x.strike(0);
        Check.yes("way(5)", x.way(5));
        Check.due("way: strikings go", x.count(4), 0);
        Check.due("way: pardon()", x.pardon(), -1);
        Check.due("way: SPLITS go", x.count(5), 0);
        Check.due("way: the TEXT stays", x.count(3), 5);
        Check.due("way: the TEXT has no FAULT", x.fault(), -1);
        Check.due("way: mat(700, 5)", x.mat(700, 5), 1);
        Check.due("way: runner", x.runner(0, 300, 40, 0, 1, 0), 0);
        Check.due("way: no SPLIT", x.split(0, 1), -1);
        Check.due("way: no GUN", x.told(0, 7), -1);
        Check.due("way: not TORN, DEAD", x.saw(0, 0, 60), 1);
        Check.due("way: the next MAT not DEAD", x.saw(0, 1, 60), 1);
        Check.due("way: no CUT, not STRUCK", x.told(0, 6), 2);
        Check.due("way: runner 1", x.runner(0, 300, 40, 0, 1, 0), 1);
        Check.due("way: not DROPPED", x.told(1, 6), 0);
        Check.due("way: not TORN", x.told(1, 13), -1);
        x.saw(1, 1, 80);
        x.cut(1, 50);
        Check.due("way: not waved through", x.told(1, 6), 5);
        Check.due("way: nor is the first", x.told(0, 6), 5);
        Check.due("way: strike", x.strike(0) ? 1 : 0, 1);
    }

    private static void oneMatAloneIsNoLastMat() {
        RunDesk x = new RunDesk();
        x.way(9);
        Check.feed(x, "s=0;n");
        x.runner(1, 300, 40, 0, 1, 0);
        Check.due("one MAT: not IN before the START", x.told(0, 6), 0);
        x.gun(0, 10);
        x.saw(0, 0, 12);
        Check.due("one MAT: UNDERWAY", x.told(0, 6), 1);
        Check.due("one MAT: TIME", x.told(0, 9), -1);
        Check.due("one MAT: GUN TIME", x.told(0, 10), -1);
        Check.due("one MAT: over PACE", x.told(0, 12), -1);
        Check.due("one MAT: LATEST", x.told(0, 8), 0);
        Check.due("one MAT: nobody listed", x.many(), 0);
        Check.due("one MAT: no PLACE of a last MAT", x.count(6), -1);
        Check.due("one MAT: IN", x.state(2), 0);
        x.cut(0, 11);
        Check.due("one MAT: OUT by its CUT", x.told(0, 6), 5);
        Check.due("one MAT: foretold", x.foretold(0, 0), 1);
        Check.due("one MAT: plan", x.plan(0, 0), 0);
        Check.due("two MATS", x.mat(1, 1), 1);
        Check.due("two MATS: PLACE", x.count(6), 1);
    }

    private static void mat() {
        RunDesk x = new RunDesk();
        Check.due("mat at the last PLACE", x.mat(1000, 5), -1);
        Check.due("mat ahead of it", x.mat(999, 5), -1);
        Check.due("mat below 0", x.mat(-1, 5), -1);
        Check.due("mat at MIN", x.mat(MIN, 5), -1);
        Check.due("mat above 100,000", x.mat(100001, 5), -1);
        Check.due("mat at MAX", x.mat(MAX, 5), -1);
        int[] refused = {0, -1, 1001, MIN, MAX};
        for (int bears : refused) {
            Check.due("mat bears " + bears, x.mat(2000, bears), -1);
        }
        Check.due("refused MATS change nothing", x.count(0), 2);
        for (int mat = 2; mat < 11; mat++) {
            Check.due("mat " + mat, x.mat(999 + mat, mat % 2 == 0 ? 1 : 1000), mat);
        }
        Check.due("mat at 100,000", x.mat(100000, 5), 11);
        Check.due("nothing is beyond", x.count(6), 100000);
        Check.due("twelve MATS", x.count(0), 12);
        x.way(5);
        Check.due("MAT 1 at 0", x.mat(0, 5), -1);
        for (int mat = 1; mat < 12; mat++) {
            Check.due("mat(" + mat + ", 5)", x.mat(mat, 5), mat);
        }
        Check.due("a thirteenth", x.mat(50, 5), -1);
        Check.due("it changes nothing", x.count(6), 11);
        RunDesk y = new RunDesk();
        y.runner(0, 300, 40, 0, 1, 0);
        y.saw(0, 1, 400);
        Check.due("IN", y.told(0, 6), 2);
        y.dead(1, true);
        y.cut(1, 100);
        y.mat(2000, 1);
        y.wave(0, true);
        Check.due("no longer IN", y.told(0, 6), 0);
        Check.due("the new MAT sees, has no CUT", y.saw(0, 2, 800), 1);
        Check.due("IN again", y.told(0, 6), 2);
    }

    private static void runner() {
        RunDesk x = new RunDesk();
        int[] least = {0, 60, 0, 0, 0, 0};
        int[] most = {3, 2000, 99, 1, 9, 5};
        for (int i = 0; i < 6; i++) {
            int[] wrong = {least[i] - 1, most[i] + 1, MIN, MAX};
            for (int value : wrong) {
                int[] a = least.clone();
                a[i] = value;
                Check.due("runner with " + value + " in " + i, enter(x, a), -1);
            }
        }
        Check.due("refused RUNNERS change nothing", x.count(1), 0);
        Check.due("the least", enter(x, least), 0);
        Check.due("the most", enter(x, most), 1);
        for (int i = 0; i < 6; i++) {
            Check.due("least " + i, x.told(0, i), least[i]);
            Check.due("most " + i, x.told(1, i), most[i]);
        }
        for (int runner = 2; runner < 60; runner++) {
            Check.due("runner " + runner, x.runner(0, 300, 40, 0, 1, 0), runner);
        }
        Check.due("runner 61", x.runner(0, 300, 40, 0, 1, 0), -1);
        Check.due("60 RUNNERS", x.count(1), 60);
    }

    private static int enter(RunDesk x, int[] a) {
        return x.runner(a[0], a[1], a[2], a[3], a[4], a[5]);
    }

    private static void gun() {
        RunDesk x = new RunDesk();
        for (int pen = 0; pen < 6; pen++) {
            x.runner(0, 300, 40, 0, 1, pen);
        }
        Check.yes("gun(0, 40000)", x.gun(0, 40000));
        Check.yes("gun(5, 0)", x.gun(5, 0));
        Check.due("the GUN of PEN 0", x.told(0, 7), 40000);
        Check.due("the GUN of PEN 5", x.told(5, 7), 0);
        Check.due("no GUN of PEN 4", x.told(4, 7), -1);
        int[] wrongTicks = {-2, 40001, MIN, MAX};
        for (int tick : wrongTicks) {
            Check.no("gun(0, " + tick + ")", x.gun(0, tick));
        }
        int[] wrongPens = {-1, 6, MIN, MAX};
        for (int pen : wrongPens) {
            Check.no("gun(" + pen + ", 7)", x.gun(pen, 7));
            Check.no("gun(" + pen + ", NONE)", x.gun(pen, -1));
        }
        Check.due("a refused GUN changes nothing", x.told(0, 7), 40000);
        Check.yes("another one instead", x.gun(0, 9));
        Check.due("the other GUN", x.told(0, 7), 9);
        Check.yes("gun(0, NONE)", x.gun(0, -1));
        Check.due("no GUN", x.told(0, 7), -1);
        Check.yes("gun(0, NONE) again", x.gun(0, -1));
    }
}
