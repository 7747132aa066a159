/** Promises 16 and 17: guess, doubt (and the DOUBTS that count tells). */
final class GuessTest {
    private static final int MIN = Integer.MIN_VALUE;
    private static final int MAX = Integer.MAX_VALUE;

    private GuessTest() {
    }

    static void run() {
        seenAndAhead();
        limitsOfKinds();
        upAndCut();
        shutIn();
        belowZero();
        wrongGuesses();
        doubtsInOrder();
        tooQuick();
        shutOutWithoutOneBehind();
        wrongDoubts();
    }

    private static void guess(RunDesk x, int runner, int mat, int least, int greatest) {
        Check.due("least guess of " + runner + " at " + mat, x.guess(runner, mat, false), least);
        Check.due("greatest guess of " + runner + " at " + mat, x.guess(runner, mat, true), greatest);
    }

    private static void seenAndAhead() {
        RunDesk x = SightingTest.desk();
        guess(x, 0, 0, -1, -1);
        guess(x, 0, 1, -1, -1);
        x.saw(0, 2, 700);
        guess(x, 0, 1, -1, -1);
        guess(x, 0, 2, 700, 700);
        guess(x, 0, 3, 850, 1600);
        x.gun(0, 100);
        guess(x, 0, 0, 100, 100);
        x.saw(0, 0, 120);
        guess(x, 0, 0, 120, 120);
    }

    private static void limitsOfKinds() {
        RunDesk x = new RunDesk();
        int[] least = {150, 150, 80, 300};
        int[] greatest = {900, 900, 900, 1500};
        for (int kind = 0; kind < 4; kind++) {
            x.runner(kind, 300, 40, 0, 1, 0);
        }
        x.gun(0, 7);
        for (int kind = 0; kind < 4; kind++) {
            guess(x, kind, 1, 7 + least[kind], 7 + greatest[kind]);
        }
    }

    private static void upAndCut() {
        RunDesk x = new RunDesk();
        x.way(5);
        x.mat(1001, 5);
        x.mat(2003, 5);
        x.mat(100000, 5);
        x.runner(0, 300, 40, 0, 1, 0);
        x.runner(3, 300, 40, 0, 1, 0);
        x.saw(0, 0, 0);
        x.saw(1, 0, 0);
        guess(x, 0, 1, 151, 900);
        guess(x, 0, 2, 301, 1802);
        guess(x, 1, 1, 301, 1501);
        guess(x, 1, 3, 30000, 150000);
        // 1,002 metres back from 500: at most 901.8 cut, at least 150.3 up
        x.saw(0, 2, 1100);
        guess(x, 0, 1, 199, 900);
        x.saw(0, 2, 500);
        guess(x, 0, 1, 151, 349);
    }

    private static void shutIn() {
        RunDesk x = new RunDesk();
        x.way(5);
        for (int mat = 1; mat < 6; mat++) {
            x.mat(mat * 1000, 5);
        }
        x.runner(0, 300, 40, 0, 1, 0);
        x.saw(0, 0, 0);
        x.saw(0, 4, 3000);
        guess(x, 0, 1, 300, 900);
        guess(x, 0, 2, 1200, 1800);
        guess(x, 0, 3, 2100, 2700);
        guess(x, 0, 5, 3150, 3900);
        x.saw(0, 1, 700);
        guess(x, 0, 2, 1200, 1600);
        x.saw(0, 3, 1500);
        guess(x, 0, 2, 850, 1350);
    }

    private static void belowZero() {
        RunDesk x = SightingTest.desk();
        x.saw(0, 0, 100);
        x.saw(0, 2, 120);
        // 120 less 150 is below 0
        guess(x, 0, 1, 250, 0);
        x.saw(0, 2, 150);
        guess(x, 0, 1, 250, 0);
        RunDesk y = SightingTest.desk();
        y.saw(0, 0, 100);
        y.saw(0, 2, 151);
        guess(y, 0, 1, 250, 1);
    }

    private static void wrongGuesses() {
        RunDesk x = SightingTest.desk();
        x.gun(0, 5);
        int[] runners = {-1, 3, 60, MIN, MAX};
        for (int runner : runners) {
            guess(x, runner, 0, -1, -1);
            guess(x, runner, 1, -1, -1);
        }
        int[] mats = {-1, 4, 12, MIN, MAX};
        for (int mat : mats) {
            guess(x, 0, mat, -1, -1);
        }
    }

    private static void doubt(RunDesk x, int i, int runner, int mat, int sort) {
        Check.due("RUNNER of doubt " + i, x.doubt(i, 0), runner);
        Check.due("MAT of doubt " + i, x.doubt(i, 1), mat);
        Check.due("sort of doubt " + i, x.doubt(i, 2), sort);
    }

    private static void doubtsInOrder() {
        RunDesk x = SightingTest.desk();
        x.saw(2, 3, 900);
        x.saw(0, 0, 100);
        x.saw(0, 2, 120);
        doubt(x, 0, 0, 1, 1);
        doubt(x, 1, 0, 1, 3);
        doubt(x, 2, 0, 2, 2);
        doubt(x, 3, 2, 0, 1);
        doubt(x, 4, 2, 1, 1);
        doubt(x, 5, 2, 2, 1);
        doubt(x, 6, -1, -1, -1);
        Check.due("six DOUBTS", x.count(2), 6);
        x.strike(0);
        Check.due("of one who is STRUCK, too", x.count(2), 6);
    }

    private static void tooQuick() {
        RunDesk x = new RunDesk();
        x.way(5);
        x.mat(1001, 5);
        x.mat(2002, 5);
        x.runner(0, 300, 40, 0, 1, 0);
        x.saw(0, 1, 151);
        Check.due("the first SEEN is in no DOUBT but that MAT 0 is missed", x.count(2), 1);
        x.gun(0, 0);
        Check.due("151 seconds from the GUN are enough", x.count(2), 0);
        x.gun(0, 1);
        doubt(x, 0, 0, 1, 2);
        x.gun(0, 200);
        doubt(x, 0, 0, 1, 2);
        x.gun(0, 0);
        x.saw(0, 2, 302);
        Check.due("302 are enough", x.count(2), 0);
        x.saw(0, 2, 301);
        doubt(x, 0, 0, 2, 2);
        x.tear(0, 1);
        Check.due("TORN from 1 on", x.count(2), 0);
    }

    private static void shutOutWithoutOneBehind() {
        RunDesk x = new RunDesk();
        x.way(5);
        x.mat(1, 5);
        x.runner(0, 300, 40, 0, 1, 0);
        x.gun(0, 10);
        // one metre: 0.15 seconds up, 0.9 seconds cut
        guess(x, 0, 1, 11, 10);
        doubt(x, 0, 0, 1, 3);
        Check.due("one DOUBT", x.count(2), 1);
    }

    private static void wrongDoubts() {
        RunDesk x = SightingTest.desk();
        doubt(x, 0, -1, -1, -1);
        x.saw(0, 1, 900);
        doubt(x, 0, 0, 0, 1);
        int[] wrong = {-1, 1, 3000, MIN, MAX};
        for (int i : wrong) {
            doubt(x, i, -1, -1, -1);
        }
        int[] whats = {-1, 3, MIN, MAX};
        for (int what : whats) {
            Check.due("doubt(0, " + what + ")", x.doubt(0, what), -1);
        }
    }
}
