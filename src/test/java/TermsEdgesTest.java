/** The boundary cases of "Terms" 1, sentence by sentence. */
final class TermsEdgesTest {
    private static final int MIN = Integer.MIN_VALUE;
    private static final int MAX = Integer.MAX_VALUE;

    private TermsEdgesTest() {
    }

    static void run() {
        none();
        fewestAndMostMats();
        zeroFirst();
        eachBeyondTheOneBefore();
        mostPlace();
        bears();
        ticks();
        mostRunners();
        factsOfRunners();
        limits();
        noGunAtFirst();
        firstTick();
        deadSeesNobody();
        tornFromAMatOn();
        start();
        seenMatZero();
        latest();
        firstStateThatHolds();
        cutBehindItsTick();
        time();
        gunTime();
    }

    private static void none() {
        Doc.says(Doc.CONSTANTS, "`NONE = -1`");
        Check.due("NONE", RunDesk.NONE, -1);
        RunDesk x = new RunDesk();
        Check.due("refused is NONE", x.mat(0, 1), RunDesk.NONE);
        Check.yes("NONE for no GUN", x.gun(0, RunDesk.NONE));
        Check.yes("NONE for no CUT", x.cut(0, RunDesk.NONE));
    }

    private static void fewestAndMostMats() {
        Doc.terms(1, "The WAY has MATS 0 .. m - 1 (2 .. 12)");
        RunDesk x = new RunDesk();
        Check.yes("MAT 0 of two", x.dead(0, false));
        Check.yes("MAT 1 of two", x.dead(1, false));
        Check.no("MAT 2 of two", x.dead(2, false));
        for (int mat = 2; mat < 12; mat++) {
            Check.due("one more", x.mat(1000 * mat, 1), mat);
            Check.yes("MAT m - 1", x.dead(mat, false));
            Check.no("MAT m", x.dead(mat + 1, false));
        }
        Check.due("a thirteenth", x.mat(99999, 1), -1);
        Check.due("twelve", x.count(0), 12);
        Check.no("MAT -1", x.dead(-1, false));
    }

    private static void zeroFirst() {
        Doc.terms(1, "whole metres, 0 first");
        RunDesk x = new RunDesk();
        x.runner(0, 2000, 0, 0, 0, 0);
        x.gun(0, 59);
        Check.due("MAT 0 is passed at the GUN", x.foretold(0, 0), 1);
        x.way(1);
        x.runner(0, 2000, 0, 0, 0, 0);
        x.gun(0, 59);
        Check.due("of a new WAY, too", x.foretold(0, 0), 1);
    }

    private static void eachBeyondTheOneBefore() {
        Doc.terms(1, "each beyond the one before");
        RunDesk x = new RunDesk();
        Check.due("999 behind 1,000", x.mat(999, 1), -1);
        Check.due("1,000 behind 1,000", x.mat(1000, 1), -1);
        Check.due("1,001 behind 1,000", x.mat(1001, 1), 2);
        Check.due("1,001 again", x.mat(1001, 1), -1);
        Check.due("1,002 behind 1,001", x.mat(1002, 1), 3);
        x.way(1);
        Check.due("0 behind 0", x.mat(0, 1), -1);
        Check.due("-1 behind 0", x.mat(-1, 1), -1);
        Check.due("MIN behind 0", x.mat(MIN, 1), -1);
        Check.due("1 behind 0", x.mat(1, 1), 1);
    }

    private static void mostPlace() {
        Doc.terms(1, "100,000 at most");
        RunDesk x = new RunDesk();
        Check.due("100,001", x.mat(100001, 1), -1);
        Check.due("MAX", x.mat(MAX, 1), -1);
        Check.due("99,999", x.mat(99999, 1), 2);
        Check.due("100,000", x.mat(100000, 1), 3);
        Check.due("100,001 behind 100,000", x.mat(100001, 1), -1);
        Check.due("the last PLACE", x.count(6), 100000);
    }

    private static void bears() {
        Doc.terms(1, "each with what it BEARS in a minute (1 .. 1,000)");
        int[] wrong = {0, -1, 1001, 1002, MIN, MAX};
        RunDesk x = new RunDesk();
        for (int bears : wrong) {
            Check.no("way(" + bears + ")", x.way(bears));
            Check.due("mat(2000, " + bears + ")", x.mat(2000, bears), -1);
        }
        Check.yes("way(1000)", x.way(1000));
        Check.due("mat(1, 1)", x.mat(1, 1), 1);
        Check.due("mat(2, 2)", x.mat(2, 2), 2);
        Check.due("mat(3, 1000)", x.mat(3, 1000), 3);
        for (int runner = 0; runner < 3; runner++) {
            x.runner(0, 60, 0, 0, 0, 0);
        }
        x.gun(0, 0);
        Check.due("1,000 bear three", x.tight(0), -1);
        Check.due("1 does not", x.tight(1), 0);
        Check.due("2 do not", x.tight(2), 0);
        Check.due("1,000 behind bear three", x.tight(3), -1);
        Check.yes("way(1)", x.way(1));
        x.runner(0, 60, 0, 0, 0, 0);
        x.gun(0, 0);
        Check.due("1 bears one", x.tight(0), -1);
        x.runner(0, 60, 0, 0, 0, 0);
        Check.due("1 does not bear two", x.tight(0), 0);
    }

    private static void ticks() {
        Doc.terms(1, "TICKS are seconds, 0 .. 40,000");
        RunDesk x = SightingTest.desk();
        int[] wrong = {-2, 40001, 40002, MIN, MAX};
        for (int tick : wrong) {
            Check.no("gun at " + tick, x.gun(0, tick));
            Check.no("cut at " + tick, x.cut(0, tick));
            Check.due("saw at " + tick, x.saw(0, 1, tick), -1);
        }
        Check.due("saw at -1", x.saw(0, 1, -1), -1);
        Check.due("nothing was seen", x.split(0, 1), -1);
        int[] right = {40000, 39999, 1, 0};
        for (int tick : right) {
            Check.yes("gun at " + tick, x.gun(0, tick));
            Check.due("START " + tick, x.told(0, 7), tick);
            Check.yes("cut at " + tick, x.cut(0, tick));
            Check.due("saw at " + tick, x.saw(0, 1, tick), 1);
            Check.due("SPLIT " + tick, x.split(0, 1), tick);
        }
    }

    private static void mostRunners() {
        Doc.terms(1, "RUNNERS are numbered 0, 1, .. (60 at most)");
        RunDesk x = new RunDesk();
        for (int runner = 0; runner < 60; runner++) {
            Check.no("not there yet: " + runner, x.drop(runner, false));
            Check.due("the number of " + runner, x.runner(0, 60, 0, 0, 0, 0), runner);
            Check.yes("there now: " + runner, x.drop(runner, false));
        }
        Check.due("a sixty-first", x.runner(0, 60, 0, 0, 0, 0), -1);
        Check.no("not there", x.drop(60, false));
        Check.due("60 RUNNERS", x.count(1), 60);
        Check.due("the last one's PACE", x.told(59, 1), 60);
    }

    private static void factsOfRunners() {
        String[] words = {
            "of a KIND: 0 RUNNER, 1 PACED, 2 CHAIR, 3 WALKER", "a PACE (seconds for 1,000 metres, 60 .. 2,000)",
            "a YEAR (0 .. 99)", "a SEX (0, 1)", "a TEAM (0 none, 1 .. 9)", "a PEN (0 .. 5)"
        };
        int[] least = {0, 60, 0, 0, 0, 0};
        int[] most = {3, 2000, 99, 1, 9, 5};
        for (int fact = 0; fact < 6; fact++) {
            Doc.terms(1, words[fact]);
            RunDesk x = new RunDesk();
            int[] a = {1, 300, 40, 1, 1, 1};
            int[] wrong = {least[fact] - 1, least[fact] - 2, most[fact] + 1, most[fact] + 2, MIN, MAX};
            for (int value : wrong) {
                a[fact] = value;
                Check.due(words[fact] + ": " + value, x.runner(a[0], a[1], a[2], a[3], a[4], a[5]), -1);
            }
            int[] right = {least[fact], least[fact] + 1, most[fact] - 1, most[fact]};
            for (int i = 0; i < 4; i++) {
                a[fact] = right[i];
                Check.due(words[fact] + ": " + right[i], x.runner(a[0], a[1], a[2], a[3], a[4], a[5]), i);
                Check.due("told " + right[i], x.told(i, fact), right[i]);
            }
        }
    }

    private static void limits() {
        Doc.terms(1, "RUNNER and PACED 150 and 900, CHAIR 80 and 900, WALKER 300 and 1,500");
        RunDesk x = new RunDesk();
        int[] least = {150, 150, 80, 300};
        int[] greatest = {900, 900, 900, 1500};
        for (int kind = 0; kind < 4; kind++) {
            x.runner(kind, 60, 0, 0, 0, 0);
            x.saw(kind, 0, 0);
            Check.due("least of KIND " + kind, x.guess(kind, 1, false), least[kind]);
            Check.due("greatest of KIND " + kind, x.guess(kind, 1, true), greatest[kind]);
            x.saw(kind, 1, least[kind]);
            Check.due("at the LIMIT no DOUBT", x.count(2), 0);
            x.saw(kind, 1, least[kind] - 1);
            Check.due("below it one", x.count(2), 1);
            x.tear(kind, 0);
        }
    }

    private static void noGunAtFirst() {
        Doc.terms(1, "PENS have a GUN, a tick, or none (at first)");
        RunDesk x = new RunDesk();
        for (int pen = 0; pen < 6; pen++) {
            x.runner(0, 60, 0, 0, 0, pen);
            Check.due("no GUN of PEN " + pen, x.told(pen, 7), -1);
            Check.due("none is foretold", x.foretold(0, 0), 0);
        }
        x.gun(3, 0);
        for (int pen = 0; pen < 6; pen++) {
            Check.due("a GUN of PEN 3 alone: " + pen, x.told(pen, 7), pen == 3 ? 0 : -1);
        }
    }

    private static void firstTick() {
        Doc.terms(1, "A SPLIT is the first tick at which a MAT saw a RUNNER.");
        RunDesk x = SightingTest.desk();
        Check.due("none", x.split(0, 1), -1);
        x.saw(0, 1, 500);
        x.saw(0, 1, 501);
        Check.due("a later one is not the first", x.split(0, 1), 500);
        x.saw(0, 1, 499);
        Check.due("an earlier one is", x.split(0, 1), 499);
        x.saw(0, 1, 0);
        x.saw(0, 1, 40000);
        Check.due("0 is the first of all", x.split(0, 1), 0);
    }

    private static void deadSeesNobody() {
        Doc.terms(1, "A MAT that is DEAD sees nobody.");
        RunDesk x = SightingTest.desk();
        x.dead(0, true);
        x.dead(3, true);
        for (int runner = 0; runner < 3; runner++) {
            Check.due("MAT 0 sees nobody", x.saw(runner, 0, 5), -1);
            Check.due("MAT 3 sees nobody", x.saw(runner, 3, 500), -1);
            Check.due("MAT 1 does", x.saw(runner, 1, 500), 1);
        }
        Check.due("the SPLITS of MAT 1 alone", x.count(5), 3);
    }

    private static void tornFromAMatOn() {
        Doc.terms(1, "of these MATS there is nothing, and nothing comes");
        for (int from = 0; from < 4; from++) {
            RunDesk x = SightingTest.desk();
            for (int mat = 0; mat < 4; mat++) {
                x.saw(1, mat, 10 + 500 * mat);
            }
            x.tear(1, from);
            for (int mat = 0; mat < 4; mat++) {
                boolean is = mat >= from;
                Check.due("TORN from " + from + ": at " + mat, x.split(1, mat), is ? -1 : 10 + 500 * mat);
                Check.due("TORN from " + from + ": comes at " + mat, x.saw(1, mat, 9 + 500 * mat), is ? -1 : 1);
            }
            Check.due("what is ahead stays", x.count(5), from);
        }
    }

    private static void start() {
        Doc.terms(1, "A RUNNER's START is the SPLIT of MAT 0, else the GUN of the PEN, else none.");
        RunDesk x = SightingTest.desk();
        x.saw(0, 1, 500);
        Check.due("none", x.told(0, 7), -1);
        x.gun(0, 0);
        Check.due("the GUN, at 0", x.told(0, 7), 0);
        x.saw(0, 0, 40000);
        Check.due("the SPLIT, behind the GUN", x.told(0, 7), 40000);
        x.saw(0, 0, 0);
        x.gun(0, 7);
        Check.due("the SPLIT, at 0", x.told(0, 7), 0);
        x.tear(0, 0);
        Check.due("the GUN again", x.told(0, 7), 7);
        x.gun(0, -1);
        Check.due("none again", x.told(0, 7), -1);
    }

    private static void seenMatZero() {
        Doc.terms(1, "SEEN are MAT 0, if there is a START (its tick that), and each other MAT with a SPLIT.");
        RunDesk x = SightingTest.desk();
        Check.due("MAT 0 is not SEEN", x.guess(0, 0, false), -1);
        x.gun(0, 77);
        Check.due("by the GUN it is", x.guess(0, 0, false), 77);
        Check.due("both", x.guess(0, 0, true), 77);
        x.saw(0, 0, 78);
        Check.due("its tick is the START", x.guess(0, 0, true), 78);
        x.saw(1, 3, 0);
        Check.due("MAT 3 with a SPLIT at 0", x.guess(1, 3, false), 0);
        Check.due("MAT 2 is not", x.guess(1, 2, false), -1);
    }

    private static void latest() {
        Doc.terms(1, "LATEST is the SEEN MAT with the highest number.");
        RunDesk x = SightingTest.desk();
        Check.due("none", x.told(0, 8), -1);
        x.gun(0, 40000);
        Check.due("MAT 0 by the GUN", x.told(0, 8), 0);
        x.saw(0, 3, 0);
        x.saw(0, 1, 40000);
        Check.due("the number counts, not the tick", x.told(0, 8), 3);
        x.tear(0, 3);
        Check.due("TORN", x.told(0, 8), 1);
        x.tear(0, 0);
        Check.due("the GUN stays", x.told(0, 8), 0);
    }

    private static void firstStateThatHolds() {
        Doc.terms(1, "STATES, the first that holds: 4 STRUCK, 3 DROPPED, 5 OUT");
        // each bit makes a state hold: 1 START, 2 the last SPLIT, 4 OUT, 8 DROPPED, 16 STRUCK
        int[] stateOfBit = {1, 2, 5, 3, 4};
        for (int bits = 0; bits < 32; bits++) {
            RunDesk x = SightingTest.desk();
            x.saw(0, 1, 700);
            x.gun(0, (bits & 1) != 0 ? 0 : -1);
            if ((bits & 2) != 0) {
                x.saw(0, 3, 1500);
            }
            x.cut(1, (bits & 4) != 0 ? 699 : 700);
            x.drop(0, (bits & 8) != 0);
            if ((bits & 16) != 0) {
                x.strike(0);
            }
            int want = 0;
            for (int bit = 0; bit < 5; bit++) {
                want = (bits & 1 << bit) != 0 ? stateOfBit[bit] : want;
            }
            Check.due("the STATE with " + bits, x.told(0, 6), want);
        }
    }

    private static void cutBehindItsTick() {
        Doc.terms(1, "there is a CUT of a MAT, the SPLIT there is behind its tick, and nobody waved the RUNNER through");
        for (int mat = 0; mat < 4; mat++) {
            RunDesk x = SightingTest.desk();
            x.saw(0, mat, 40000);
            int before = x.told(0, 6);
            x.cut(mat, 40000);
            Check.due("at its tick", x.told(0, 6), before);
            x.cut(mat, 39999);
            Check.due("behind its tick", x.told(0, 6), 5);
            x.wave(0, true);
            Check.due("waved through", x.told(0, 6), before);
            x.wave(0, false);
            x.cut(mat, -1);
            Check.due("no CUT", x.told(0, 6), before);
        }
        RunDesk y = SightingTest.desk();
        y.cut(2, 0);
        Check.due("no SPLIT there", y.told(0, 6), 0);
        y.saw(0, 2, 0);
        Check.due("SPLIT and CUT at 0", y.told(0, 6), 0);
        y.gun(0, 9);
        y.cut(0, 8);
        Check.due("a GUN behind the CUT is no SPLIT", y.told(0, 6), 1);
    }

    private static void time() {
        Doc.terms(1, "TIME is the SPLIT of the last MAT less the START, of one who is IN");
        Doc.terms(1, "(Below 0, or without such a tick: none.)");
        RunDesk x = SightingTest.desk();
        x.saw(0, 3, 501);
        Check.due("without a START", x.told(0, 9), -1);
        x.gun(0, 500);
        Check.due("1", x.told(0, 9), 1);
        x.gun(0, 501);
        Check.due("0", x.told(0, 9), 0);
        x.gun(0, 502);
        Check.due("below 0", x.told(0, 9), -1);
        x.gun(0, 40000);
        Check.due("far below 0", x.told(0, 9), -1);
        x.gun(0, 0);
        x.drop(0, true);
        Check.due("DROPPED", x.told(0, 9), -1);
        x.drop(0, false);
        x.cut(3, 500);
        Check.due("OUT", x.told(0, 9), -1);
        x.cut(3, -1);
        x.strike(0);
        Check.due("STRUCK", x.told(0, 9), -1);
        x.pardon();
        Check.due("IN", x.told(0, 9), 501);
        x.tear(0, 3);
        Check.due("without the last SPLIT", x.told(0, 9), -1);
        x.saw(1, 0, 0);
        x.saw(1, 3, 40000);
        Check.due("the greatest", x.told(1, 9), 40000);
    }

    private static void gunTime() {
        Doc.terms(1, "GUN TIME that less the GUN of the PEN.");
        RunDesk x = SightingTest.desk();
        x.saw(0, 0, 100);
        x.saw(0, 3, 501);
        Check.due("without a GUN", x.told(0, 10), -1);
        x.gun(1, 0);
        Check.due("the GUN of another PEN", x.told(0, 10), -1);
        x.gun(0, 500);
        Check.due("1", x.told(0, 10), 1);
        x.gun(0, 501);
        Check.due("0", x.told(0, 10), 0);
        x.gun(0, 502);
        Check.due("below 0", x.told(0, 10), -1);
        Check.due("TIME all the same", x.told(0, 9), 401);
        x.gun(0, 0);
        Check.due("from 0", x.told(0, 10), 501);
        x.tear(0, 3);
        Check.due("not IN", x.told(0, 10), -1);
    }
}
