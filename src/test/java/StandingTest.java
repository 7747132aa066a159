/** Promises 14, 15, 29 and 30: told, split, state, count. */
final class StandingTest {
    private static final int MIN = Integer.MIN_VALUE;
    private static final int MAX = Integer.MAX_VALUE;

    private StandingTest() {
    }

    static void run() {
        facts();
        start();
        states();
        times();
        overPace();
        wrongAsks();
        split();
        counts();
    }

    private static void facts() {
        RunDesk x = SightingTest.desk();
        int[] want = {1, 240, 30, 1, 2, 1};
        for (int what = 0; what < 6; what++) {
            Check.due("told(1, " + what + ")", x.told(1, what), want[what]);
        }
    }

    private static void start() {
        RunDesk x = SightingTest.desk();
        Check.due("no START", x.told(0, 7), -1);
        Check.due("no LATEST", x.told(0, 8), -1);
        Check.due("no START of the GUN's", x.told(0, 11), -1);
        x.saw(0, 2, 700);
        Check.due("LATEST without a START", x.told(0, 8), 2);
        x.gun(0, 50);
        Check.due("START by the GUN", x.told(0, 7), 50);
        Check.due("of the GUN's", x.told(0, 11), 1);
        Check.due("another PEN", x.told(1, 7), -1);
        x.saw(0, 0, 40);
        Check.due("START by the SPLIT, ahead of the GUN", x.told(0, 7), 40);
        Check.due("not the GUN's", x.told(0, 11), 0);
        x.gun(1, 60);
        Check.due("LATEST by the GUN", x.told(1, 8), 0);
        for (int mat = 1; mat < 4; mat++) {
            x.saw(1, mat, 5000);
            Check.due("LATEST", x.told(1, 8), mat);
        }
        x.saw(1, 1, 9);
        Check.due("LATEST is the highest number", x.told(1, 8), 3);
    }

    private static void states() {
        RunDesk x = SightingTest.desk();
        Check.due("none of these", x.told(0, 6), 0);
        x.saw(0, 1, 300);
        Check.due("a SPLIT is no START", x.told(0, 6), 0);
        x.saw(0, 3, 900);
        Check.due("IN without a START", x.told(0, 6), 2);
        Check.due("but without TIME", x.told(0, 9), -1);
        x.saw(1, 0, 5);
        Check.due("UNDERWAY", x.told(1, 6), 1);
        Check.due("state(0)", x.state(0), 1);
        Check.due("state(1)", x.state(1), 1);
        Check.due("state(2)", x.state(2), 1);
        x.cut(1, 200);
        Check.due("OUT is ahead of IN", x.told(0, 6), 5);
        Check.due("state(5)", x.state(5), 1);
        x.drop(0, true);
        Check.due("DROPPED is ahead of OUT", x.told(0, 6), 3);
        Check.due("state(3)", x.state(3), 1);
        x.strike(0);
        Check.due("STRUCK is ahead of DROPPED", x.told(0, 6), 4);
        Check.due("state(4)", x.state(4), 1);
        Check.due("state(2) now", x.state(2), 0);
        int[] others = {-1, 6, MIN, MAX};
        for (int state : others) {
            Check.due("state(" + state + ")", x.state(state), 0);
        }
    }

    private static void times() {
        RunDesk x = SightingTest.desk();
        x.gun(0, 100);
        Check.due("no TIME before", x.told(0, 9), -1);
        Check.due("no GUN TIME before", x.told(0, 10), -1);
        x.saw(0, 3, 1000);
        Check.due("TIME by the GUN", x.told(0, 9), 900);
        x.saw(0, 0, 130);
        Check.due("TIME", x.told(0, 9), 870);
        Check.due("GUN TIME", x.told(0, 10), 900);
        x.gun(0, 1000);
        Check.due("GUN TIME 0", x.told(0, 10), 0);
        x.gun(0, 1001);
        Check.due("GUN TIME below 0", x.told(0, 10), -1);
        Check.due("TIME of one whose GUN is late", x.told(0, 9), 870);
        x.gun(0, -1);
        Check.due("GUN TIME without a GUN", x.told(0, 10), -1);
        x.saw(2, 0, 50);
        x.saw(2, 3, 50);
        Check.due("TIME 0", x.told(2, 9), 0);
        x.saw(2, 3, 49);
        Check.due("TIME below 0", x.told(2, 9), -1);
        Check.due("who is IN all the same", x.told(2, 6), 2);
        x.gun(0, 100);
        x.drop(0, true);
        Check.due("TIME of one who is not IN", x.told(0, 9), -1);
        Check.due("GUN TIME of one who is not IN", x.told(0, 10), -1);
    }

    private static void overPace() {
        RunDesk x = new RunDesk();
        x.way(5);
        x.mat(1001, 5);
        x.runner(1, 241, 30, 1, 2, 1);
        x.runner(0, 241, 30, 1, 2, 1);
        x.saw(0, 0, 10);
        x.saw(1, 0, 10);
        Check.due("not IN", x.told(0, 12), -1);
        x.saw(0, 1, 261);
        x.saw(1, 1, 261);
        // 1,001 metres at 241 make 241.241 seconds
        Check.due("over PACE", x.told(0, 12), 10);
        Check.due("not PACED", x.told(1, 12), -1);
        x.saw(0, 1, 211);
        Check.due("below 0", x.told(0, 12), -40);
        x.saw(0, 1, 9);
        Check.due("without TIME", x.told(0, 12), -1);
    }

    private static void wrongAsks() {
        RunDesk x = SightingTest.desk();
        x.gun(0, 5);
        int[] whats = {-1, 14, MIN, MAX};
        for (int what : whats) {
            Check.due("told(0, " + what + ")", x.told(0, what), -1);
        }
        int[] runners = {-1, 3, 60, MIN, MAX};
        for (int runner : runners) {
            for (int what = -1; what < 15; what++) {
                Check.due("told(" + runner + ", " + what + ")", x.told(runner, what), -1);
            }
        }
    }

    private static void split() {
        RunDesk x = SightingTest.desk();
        x.gun(0, 5);
        Check.due("the GUN is no SPLIT", x.split(0, 0), -1);
        x.saw(0, 0, 0);
        Check.due("SPLIT 0", x.split(0, 0), 0);
        x.saw(2, 3, 77);
        Check.due("SPLIT of MAT 3", x.split(2, 3), 77);
        Check.due("not another's", x.split(1, 3), -1);
        int[] runners = {-1, 3, 60, MIN, MAX};
        for (int runner : runners) {
            Check.due("split(" + runner + ", 0)", x.split(runner, 0), -1);
        }
        int[] mats = {-1, 4, 12, MIN, MAX};
        for (int mat : mats) {
            Check.due("split(0, " + mat + ")", x.split(0, mat), -1);
        }
    }

    private static void counts() {
        RunDesk x = SightingTest.desk();
        x.saw(0, 3, 500);
        x.saw(0, 3, 400);
        x.saw(1, 1, 400);
        x.strike(1);
        Check.feed(x, "s=1");
        Check.due("MATS", x.count(0), 4);
        Check.due("RUNNERS", x.count(1), 3);
        // RUNNER 0 misses MATS 0 to 2, RUNNER 1 MAT 0; none of them has a MAT ahead
        Check.due("DOUBTS", x.count(2), 4);
        Check.due("bytes", x.count(3), 3);
        Check.due("strikings", x.count(4), 1);
        Check.due("SPLITS", x.count(5), 2);
        Check.due("PLACE", x.count(6), 3000);
        int[] others = {-1, 7, MIN, MAX};
        for (int what : others) {
            Check.due("count(" + what + ")", x.count(what), -1);
        }
    }
}
