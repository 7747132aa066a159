import java.util.NoSuchElementException;

/** Promises 31 and 32: image, back. */
final class ImageTest {
    private ImageTest() {
    }

    static void run() {
        nothingKept();
        allIsKept();
        everyMarkComesBack();
        theTextIsNot();
        keptInsteadOfBefore();
    }

    private static boolean backThrows(RunDesk x) {
        try {
            x.back();
            return false;
        } catch (NoSuchElementException e) {
            return true;
        }
    }

    private static void nothingKept() {
        RunDesk x = SightingTest.desk();
        x.gun(0, 7);
        Check.yes("back of a new object throws", backThrows(x));
        Check.due("and changes nothing", x.told(0, 7), 7);
        Check.yes("again", backThrows(x));
        x.image();
        Check.no("not when something is kept", backThrows(x));
        x.way(5);
        Check.no("nor after a new WAY", backThrows(x));
        Check.due("the MATS are back", x.count(0), 4);
    }

    private static RunDesk full() {
        RunDesk x = SightingTest.desk();
        x.gun(0, 100);
        x.saw(0, 0, 110);
        x.saw(0, 3, 1500);
        x.saw(1, 1, 300);
        x.dead(2, true);
        x.cut(1, 200);
        x.wave(1, true);
        x.tear(1, 2);
        x.drop(2, true);
        x.strike(2);
        x.strike(0);
        x.image();
        return x;
    }

    private static void asKept(RunDesk x) {
        Check.due("MATS", x.count(0), 4);
        Check.due("RUNNERS", x.count(1), 3);
        Check.due("strikings", x.count(4), 2);
        Check.due("SPLITS", x.count(5), 3);
        Check.due("last PLACE", x.count(6), 3000);
        Check.due("START", x.told(0, 7), 110);
        Check.due("PACE", x.told(1, 1), 240);
        Check.due("TORN", x.told(1, 13), 2);
        Check.due("waved through its CUT", x.told(1, 6), 0);
        Check.due("DEAD", x.saw(0, 2, 5), -1);
        Check.due("foretold", x.foretold(1, 6), 1);
        Check.due("latest striking", x.pardon(), 0);
        Check.due("IN", x.told(0, 6), 2);
        Check.due("striking before", x.pardon(), 2);
        Check.due("DROPPED", x.told(2, 6), 3);
        x.wave(1, false);
        Check.due("the CUT", x.told(1, 6), 5);
        x.tear(0, 0);
        Check.due("GUN", x.told(0, 7), 100);
    }

    private static void allIsKept() {
        RunDesk x = full();
        Check.no("back", backThrows(x));
        asKept(x);
        Check.no("back again: that stays kept", backThrows(x));
        asKept(x);
        x.way(3);
        x.mat(10, 3);
        x.runner(3, 900, 9, 1, 9, 5);
        x.saw(0, 1, 9);
        x.strike(0);
        x.gun(0, 9);
        x.cut(1, 1);
        x.back();
        asKept(x);
        x.back();
        x.mat(4000, 5);
        x.runner(3, 900, 9, 1, 9, 5);
        x.plan(5, 5);
        x.dead(2, false);
        x.drop(2, false);
        x.back();
        asKept(x);
    }

    /** Each mark is changed after the image by the very call that made it, and must come back. */
    private static void everyMarkComesBack() {
        RunDesk x = new RunDesk();
        x.way(1);
        x.mat(1000, 2);
        for (int runner = 0; runner < 60; runner++) {
            x.runner(0, 300, 40, 0, 1, runner == 0 ? 0 : 1);
        }
        x.gun(0, 60);
        x.saw(0, 0, 70);
        x.saw(0, 1, 700);
        x.image();
        x.way(60);
        x.mat(900, 60);
        for (int runner = 0; runner < 60; runner++) {
            x.runner(1, 200, 30, 1, 2, 2);
            x.saw(runner, 1, 500);
            x.tear(runner, 0);
            x.drop(runner, true);
            x.wave(runner, true);
            x.strike(59 - runner);
        }
        x.gun(0, 5);
        x.gun(1, 5);
        x.cut(0, 5);
        x.cut(1, 5);
        x.dead(0, true);
        x.dead(1, true);
        x.back();
        Check.due("the last PLACE", x.count(6), 1000);
        Check.due("no strikings", x.count(4), 0);
        Check.due("the SPLITS", x.count(5), 2);
        Check.due("IN", x.told(0, 6), 2);
        Check.due("all the others before their START", x.state(0), 59);
        Check.due("no GUN of PEN 1", x.told(59, 7), -1);
        for (int runner = 0; runner < 60; runner++) {
            Check.due("not TORN", x.told(runner, 13), -1);
            Check.due("KIND", x.told(runner, 0), 0);
            Check.yes("not STRUCK", x.strike(runner));
            Check.due("sees at MAT 0", x.saw(runner, 0, 65), 1);
            Check.due("sees at MAT 1", x.saw(runner, 1, 650), 1);
        }
        for (int runner = 59; runner >= 0; runner--) {
            Check.due("the order of strikings", x.pardon(), runner);
        }
        x.cut(1, 100);
        Check.due("none is waved through", x.state(5), 60);
        x.gun(1, 60);
        Check.due("MAT 0 bears one", x.tight(0), 1);
        Check.due("MAT 1 bears two", x.tight(1), 6);
    }

    private static void theTextIsNot() {
        RunDesk x = SightingTest.desk();
        Check.write(x, "s=1;n");
        x.image();
        Check.feed(x, ";3");
        x.back();
        Check.due("the TEXT is as it is", x.count(3), 7);
        x.end(1);
        x.back();
        Check.due("the TEXT is as it is now", x.count(3), 1);
    }

    private static void keptInsteadOfBefore() {
        RunDesk x = SightingTest.desk();
        x.gun(0, 1);
        x.image();
        x.gun(0, 2);
        x.image();
        x.gun(0, 3);
        x.back();
        Check.due("the later image", x.told(0, 7), 2);
        x.gun(0, 4);
        x.back();
        Check.due("still", x.told(0, 7), 2);
    }
}
