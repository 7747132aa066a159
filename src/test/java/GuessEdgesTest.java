/** The boundary cases of "Terms" 2 and of promises 16 and 17 (GUESS, DOUBTS), sentence by sentence. */
final class GuessEdgesTest {
    private static final int MIN = Integer.MIN_VALUE;
    private static final int MAX = Integer.MAX_VALUE;

    private GuessEdgesTest() {
    }

    static void run() {
        seen();
        nearestAhead();
        leastUp();
        greatestCut();
        nearestBehind();
        metresBehindUpAndCut();
        belowZero();
        withoutOneAhead();
        beyondTicks();
        noSuchGuess();
        missed();
        tooQuick();
        notTheFirstSeen();
        shutOut();
        order();
        noSuchDoubt();
        mostDoubts();
    }

    /** A WAY with MATS at these PLACES behind 0 and RUNNERS of all four KINDS. */
    private static RunDesk desk(int... places) {
        RunDesk x = new RunDesk();
        x.way(9);
        for (int place : places) {
            x.mat(place, 9);
        }
        for (int kind = 0; kind < 4; kind++) {
            x.runner(kind, 300, 40, 0, 1, kind);
        }
        return x;
    }

    private static void guess(RunDesk x, int runner, int mat, int least, int greatest) {
        Check.due("least guess of " + runner + " at " + mat, x.guess(runner, mat, false), least);
        Check.due("greatest guess of " + runner + " at " + mat, x.guess(runner, mat, true), greatest);
    }

    private static void doubt(RunDesk x, int i, int runner, int mat, int sort) {
        Check.due("RUNNER of doubt " + i, x.doubt(i, 0), runner);
        Check.due("MAT of doubt " + i, x.doubt(i, 1), mat);
        Check.due("sort of doubt " + i, x.doubt(i, 2), sort);
    }

    private static void seen() {
        Doc.terms(2, "SEEN: its tick, both least and greatest.");
        RunDesk x = desk(1000, 2000);
        x.saw(0, 0, 0);
        x.saw(0, 1, 40000);
        x.saw(0, 2, 3);
        guess(x, 0, 0, 0, 0);
        guess(x, 0, 1, 40000, 40000);
        guess(x, 0, 2, 3, 3);
        x.gun(1, 0);
        guess(x, 1, 0, 0, 0);
    }

    private static void nearestAhead() {
        Doc.terms(2, "if a MAT ahead is SEEN (a the nearest one, its tick s, D metres to it)");
        RunDesk x = desk(1000, 2000, 3000);
        x.saw(0, 0, 0);
        guess(x, 0, 3, 450, 2700);
        x.saw(0, 1, 500);
        guess(x, 0, 3, 800, 2300);
        x.saw(0, 2, 900);
        guess(x, 0, 3, 1050, 1800);
        x.saw(1, 1, 0);
        guess(x, 1, 2, 150, 900);
    }

    private static void leastUp() {
        Doc.terms(2, "least s and (D times the least of the KIND's LIMITS, by 1,000, up)");
        int[] metres = {1, 20, 21, 999, 1000, 1001, 99999, 100000};
        int[] runner = {1, 3, 4, 150, 150, 151, 15000, 15000};
        int[] chair = {1, 2, 2, 80, 80, 81, 8000, 8000};
        int[] walker = {1, 6, 7, 300, 300, 301, 30000, 30000};
        for (int i = 0; i < metres.length; i++) {
            RunDesk x = desk(metres[i]);
            for (int kind = 0; kind < 4; kind++) {
                x.saw(kind, 0, 10);
                int want = kind == 2 ? chair[i] : kind == 3 ? walker[i] : runner[i];
                Check.due("least of KIND " + kind + " over " + metres[i], x.guess(kind, 1, false), 10 + want);
            }
        }
    }

    private static void greatestCut() {
        Doc.terms(2, "greatest s and (D times the greatest, by 1,000, cut)");
        int[] metres = {1, 2, 10, 999, 1000, 1001, 99999, 100000};
        int[] most = {0, 1, 9, 899, 900, 900, 89999, 90000};
        int[] walker = {1, 3, 15, 1498, 1500, 1501, 149998, 150000};
        for (int i = 0; i < metres.length; i++) {
            RunDesk x = desk(metres[i]);
            for (int kind = 0; kind < 4; kind++) {
                x.saw(kind, 0, 10);
                int want = kind == 3 ? walker[i] : most[i];
                Check.due("greatest of KIND " + kind + " over " + metres[i], x.guess(kind, 1, true), 10 + want);
            }
        }
    }

    private static void nearestBehind() {
        Doc.terms(2, "if a MAT behind is SEEN, too (b the nearest, its tick t, D its metres)");
        RunDesk x = desk(1000, 2000, 3000);
        x.saw(0, 0, 0);
        x.saw(0, 3, 2000);
        guess(x, 0, 1, 200, 900);
        x.saw(0, 2, 700);
        guess(x, 0, 1, 150, 550);
        // one behind alone binds nothing without one ahead
        x.saw(1, 2, 700);
        guess(x, 1, 1, -1, -1);
    }

    private static void metresBehindUpAndCut() {
        Doc.terms(2, "least at least t less (D times the greatest, by 1,000, cut)");
        Doc.terms(2, "greatest at most t less (D times the least, by 1,000, up)");
        RunDesk x = desk(1000, 2001);
        x.saw(0, 0, 0);
        // 1,001 metres: at most 900.9, cut; at least 150.15, up
        x.saw(0, 2, 1051);
        guess(x, 0, 1, 151, 900);
        x.saw(0, 2, 1050);
        guess(x, 0, 1, 150, 899);
        x.saw(0, 2, 1049);
        guess(x, 0, 1, 150, 898);
        RunDesk y = desk(1000, 2000);
        y.saw(0, 0, 0);
        y.saw(0, 2, 1051);
        guess(y, 0, 1, 151, 900);
        y.saw(0, 2, 1050);
        guess(y, 0, 1, 150, 900);
        y.saw(0, 2, 1049);
        guess(y, 0, 1, 150, 899);
    }

    private static void belowZero() {
        Doc.terms(2, "(Below 0: 0.)");
        RunDesk x = desk(1000, 2000);
        x.saw(0, 0, 0);
        x.saw(0, 2, 151);
        guess(x, 0, 1, 150, 1);
        x.saw(0, 2, 150);
        guess(x, 0, 1, 150, 0);
        x.saw(0, 2, 149);
        guess(x, 0, 1, 150, 0);
        x.saw(0, 2, 0);
        guess(x, 0, 1, 150, 0);
    }

    private static void withoutOneAhead() {
        Doc.terms(2, "Without one ahead there is none.");
        RunDesk x = desk(1000, 2000);
        for (int mat = 0; mat < 3; mat++) {
            guess(x, 0, mat, -1, -1);
        }
        x.saw(0, 2, 900);
        guess(x, 0, 0, -1, -1);
        guess(x, 0, 1, -1, -1);
        x.way(9);
        x.runner(0, 300, 40, 0, 1, 0);
        guess(x, 0, 0, -1, -1);
    }

    private static void beyondTicks() {
        Doc.says(16, "GUESS: least, or greatest.");
        RunDesk x = desk(99999, 100000);
        x.saw(3, 0, 40000);
        // a GUESS may lie behind the last tick
        guess(x, 3, 2, 70000, 190000);
        x.saw(3, 2, 40000);
        guess(x, 3, 1, 70000, 39999);
    }

    private static void noSuchGuess() {
        Doc.says(16, "NONE without, or if there is none such.");
        RunDesk x = desk(1000, 2000);
        for (int runner = 0; runner < 4; runner++) {
            x.saw(runner, 0, 5);
        }
        int[] runners = {-1, 4, 5, 59, 60, MIN, MAX};
        for (int runner : runners) {
            for (int mat = 0; mat < 3; mat++) {
                guess(x, runner, mat, -1, -1);
            }
        }
        int[] mats = {-1, 3, 4, 11, 12, MIN, MAX};
        for (int mat : mats) {
            guess(x, 3, mat, -1, -1);
        }
        guess(x, 3, 2, 605, 3005);
    }

    private static void missed() {
        Doc.terms(2, "1 a MAT that is not SEEN, while one with a higher number is");
        RunDesk x = desk(1000, 2000, 3000);
        Check.due("nothing SEEN", x.count(2), 0);
        x.saw(0, 0, 0);
        Check.due("MAT 0 alone", x.count(2), 0);
        x.saw(0, 1, 500);
        Check.due("MATS 0 and 1", x.count(2), 0);
        x.saw(0, 3, 1500);
        Check.due("MAT 2 is missed", x.count(2), 1);
        doubt(x, 0, 0, 2, 1);
        x.saw(0, 2, 1000);
        Check.due("not missed", x.count(2), 0);
        x.saw(1, 1, 500);
        doubt(x, 0, 1, 0, 1);
        x.gun(1, 0);
        Check.due("MAT 0 is SEEN by the GUN", x.count(2), 0);
        x.gun(1, -1);
        x.dead(0, true);
        doubt(x, 0, 1, 0, 1);
        x.tear(1, 1);
        Check.due("one with a higher number is gone", x.count(2), 0);
    }

    private static void tooQuick() {
        Doc.terms(2, "the tick less that of the SEEN one ahead is less than the metres between times the least LIMIT by 1,000, up");
        int[] least = {150, 150, 80, 300};
        for (int kind = 0; kind < 4; kind++) {
            for (int metres = 1000; metres <= 1001; metres++) {
                int needed = least[kind] + metres - 1000;
                RunDesk x = desk(500, 500 + metres);
                x.saw(kind, 0, 0);
                x.saw(kind, 1, 7000);
                x.saw(kind, 2, 7000 + needed);
                Check.due("as much as is needed", x.count(2), 0);
                x.saw(kind, 2, 7000 + needed - 1);
                Check.due("one less", x.count(2), 1);
                doubt(x, 0, kind, 2, 2);
                x.saw(kind, 2, 6999);
                doubt(x, 0, kind, 2, 2);
                x.saw(kind, 2, 0);
                doubt(x, 0, kind, 2, 2);
            }
        }
        RunDesk y = desk(1000, 2000);
        y.saw(0, 0, 0);
        y.saw(0, 2, 300);
        // over the missed MAT 1: 2,000 metres
        Check.due("MAT 1 missed alone", y.count(2), 1);
        y.saw(0, 2, 299);
        doubt(y, 0, 0, 1, 1);
        doubt(y, 1, 0, 1, 3);
        doubt(y, 2, 0, 2, 2);
    }

    private static void notTheFirstSeen() {
        Doc.terms(2, "2 of a SEEN MAT, not the first SEEN");
        RunDesk x = desk(1000, 2000);
        x.saw(0, 0, 0);
        Check.due("MAT 0, the first", x.count(2), 0);
        x.saw(1, 1, 0);
        Check.due("MAT 1, the first, MAT 0 missed", x.count(2), 1);
        doubt(x, 0, 1, 0, 1);
        x.gun(1, 0);
        doubt(x, 0, 1, 1, 2);
    }

    private static void shutOut() {
        Doc.terms(2, "3 a MAT not SEEN whose least GUESS is above its greatest");
        RunDesk x = desk(1000, 2000);
        x.saw(0, 0, 0);
        x.saw(0, 2, 1801);
        guess(x, 0, 1, 901, 900);
        doubt(x, 0, 0, 1, 1);
        doubt(x, 1, 0, 1, 3);
        Check.due("above by one: missed and shut out", x.count(2), 2);
        x.saw(0, 2, 1800);
        guess(x, 0, 1, 900, 900);
        Check.due("alike: missed alone", x.count(2), 1);
        x.saw(0, 2, 300);
        guess(x, 0, 1, 150, 150);
        Check.due("alike again", x.count(2), 1);
        x.saw(0, 2, 299);
        Check.due("missed, shut out, MAT 2 too quick", x.count(2), 3);
        x.saw(0, 1, 0);
        Check.due("MAT 1 is SEEN, too quick", x.doubt(0, 2), 2);
        Check.due("MAT 2 is in time", x.count(2), 1);
        x.saw(1, 2, 0);
        Check.due("without a GUESS there is no third sort", x.count(2), 3);
        doubt(x, 1, 1, 0, 1);
        doubt(x, 2, 1, 1, 1);
    }

    private static void order() {
        Doc.terms(2, "DOUBTS, in order by RUNNERS, then MATS, then sorts");
        RunDesk x = desk(1000, 2000, 3000);
        x.saw(3, 3, 10);
        x.saw(1, 3, 10);
        x.saw(1, 0, 0);
        x.saw(0, 2, 20);
        x.saw(0, 0, 0);
        int[][] want = {
            {0, 1, 1}, {0, 1, 3}, {0, 2, 2}, {1, 1, 1}, {1, 1, 3}, {1, 2, 1}, {1, 2, 3}, {1, 3, 2},
            {3, 0, 1}, {3, 1, 1}, {3, 2, 1}
        };
        Check.due("so many", x.count(2), want.length);
        for (int i = 0; i < want.length; i++) {
            doubt(x, i, want[i][0], want[i][1], want[i][2]);
        }
    }

    private static void noSuchDoubt() {
        Doc.says(17, "NONE without, or for others.");
        RunDesk x = desk(1000, 2000);
        doubt(x, 0, -1, -1, -1);
        x.saw(0, 2, 900);
        Check.due("two", x.count(2), 2);
        doubt(x, 1, 0, 1, 1);
        int[] wrong = {-1, 2, 3, 2160, MIN, MAX};
        for (int i : wrong) {
            doubt(x, i, -1, -1, -1);
        }
        int[] whats = {-1, 3, 4, MIN, MAX};
        for (int what : whats) {
            Check.due("doubt(1, " + what + ")", x.doubt(1, what), -1);
        }
        x.tear(0, 0);
        doubt(x, 0, -1, -1, -1);
    }

    private static void mostDoubts() {
        Doc.says(17, "Of DOUBT i: 0 the RUNNER, 1 the MAT, 2 the sort.");
        RunDesk x = new RunDesk();
        x.way(9);
        for (int mat = 1; mat < 12; mat++) {
            x.mat(mat * 1000, 9);
        }
        x.gun(0, 0);
        for (int runner = 0; runner < 60; runner++) {
            x.runner(0, 300, 40, 0, 1, 0);
            x.saw(runner, 11, 0);
        }
        // of each RUNNER: MATS 1 to 10 missed and shut out, MAT 11 too quick
        Check.due("all", x.count(2), 60 * 21);
        for (int runner = 0; runner < 60; runner += 59) {
            doubt(x, runner * 21, runner, 1, 1);
            doubt(x, runner * 21 + 1, runner, 1, 3);
            doubt(x, runner * 21 + 19, runner, 10, 3);
            doubt(x, runner * 21 + 20, runner, 11, 2);
        }
        doubt(x, 60 * 21, -1, -1, -1);
    }
}
