import java.util.NoSuchElementException;

/** Promises 31 and 32: image, back. */
final class ImageTest {
    private ImageTest() {
    }

    static void run() {
        nothingKept();
        allIsKept();
        theTextIsNot();
        keptInsteadOfBefore();
    }

    private static boolean backThrows(RunDesk x) {
        try {
            x.back();
            return false;
        } catch (NoSuchElementException e) {
            return true;
        }
    }

    private static void nothingKept() {
        RunDesk x = SightingTest.desk();
        x.gun(0, 7);
        Check.yes("back of a new object throws", backThrows(x));
        Check.due("and changes nothing", x.told(0, 7), 7);
        Check.yes("again", backThrows(x));
        x.image();
        Check.no("not when something is kept", backThrows(x));
        x.way(5);
        Check.no("nor after a new WAY", backThrows(x));
        Check.due("the MATS are back", x.count(0), 4);
    }

    private static RunDesk full() {
        RunDesk x = SightingTest.desk();
        x.gun(0, 100);
        x.saw(0, 0, 110);
        x.saw(0, 3, 1500);
        x.saw(1, 1, 300);
        x.dead(2, true);
        x.cut(1, 200);
        x.wave(1, true);
        x.tear(1, 2);
        x.drop(2, true);
        x.strike(2);
        x.strike(0);
        x.image();
        return x;
    }

    private static void asKept(RunDesk x) {
        Check.due("MATS", x.count(0), 4);
        Check.due("RUNNERS", x.count(1), 3);
        Check.due("strikings", x.count(4), 2);
        Check.due("SPLITS", x.count(5), 3);
        Check.due("last PLACE", x.count(6), 3000);
        Check.due("START", x.told(0, 7), 110);
        Check.due("PACE", x.told(1, 1), 240);
        Check.due("TORN", x.told(1, 13), 2);
        Check.due("waved through its CUT", x.told(1, 6), 0);
        Check.due("DEAD", x.saw(0, 2, 5), -1);
        Check.due("foretold", x.foretold(1, 6), 1);
        Check.due("latest striking", x.pardon(), 0);
        Check.due("IN", x.told(0, 6), 2);
        Check.due("striking before", x.pardon(), 2);
        Check.due("DROPPED", x.told(2, 6), 3);
        x.wave(1, false);
        Check.due("the CUT", x.told(1, 6), 5);
        x.tear(0, 0);
        Check.due("GUN", x.told(0, 7), 100);
    }

    private static void allIsKept() {
        RunDesk x = full();
        Check.no("back", backThrows(x));
        asKept(x);
        Check.no("back again: that stays kept", backThrows(x));
        asKept(x);
        x.way(3);
        x.mat(10, 3);
        x.runner(3, 900, 9, 1, 9, 5);
        x.saw(0, 1, 9);
        x.strike(0);
        x.gun(0, 9);
        x.cut(1, 1);
        x.back();
        asKept(x);
        x.back();
        x.mat(4000, 5);
        x.runner(3, 900, 9, 1, 9, 5);
        x.plan(5, 5);
        x.dead(2, false);
        x.drop(2, false);
        x.back();
        asKept(x);
    }

    private static void theTextIsNot() {
        RunDesk x = SightingTest.desk();
        Check.write(x, "s=1;n");
        x.image();
        Check.feed(x, ";3");
        x.back();
        Check.due("the TEXT is as it is", x.count(3), 7);
        x.end(1);
        x.back();
        Check.due("the TEXT is as it is now", x.count(3), 1);
    }

    private static void keptInsteadOfBefore() {
        RunDesk x = SightingTest.desk();
        x.gun(0, 1);
        x.image();
        x.gun(0, 2);
        x.image();
        x.gun(0, 3);
        x.back();
        Check.due("the later image", x.told(0, 7), 2);
        x.gun(0, 4);
        x.back();
        Check.due("still", x.told(0, 7), 2);
    }
}
