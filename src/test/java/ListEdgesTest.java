/** The boundary cases of the LIST ("Terms" 4) and of promises 24 to 30, sentence by sentence. */
final class ListEdgesTest {
    private static final int MIN = Integer.MIN_VALUE;
    private static final int MAX = Integer.MAX_VALUE;
    private static final String ALL = "s<2;n;3";
    private static final String FAULTY = "s<2;n;";

    private ListEdgesTest() {
    }

    static void run() {
        onlyIn();
        onlyThoseOfItsTests();
        onlyWithTheTimeOfOrder();
        byTimeThenNumber();
        placeByLesserTimes();
        prizesByNumber();
        list();
        place();
        many();
        prizes();
        bestOfATeam();
        noSuchTeam();
        states();
        counts();
        countOfOneMat();
    }

    /** RUNNERS of TEAM 1 who start at 0 by MAT 0 and come in at these ticks; -1: not in. */
    private static RunDesk desk(String text, int... lasts) {
        RunDesk x = new RunDesk();
        for (int i = 0; i < lasts.length; i++) {
            x.runner(0, 300, i, 0, 1, 0);
            x.saw(i, 0, 0);
            x.saw(i, 1, lasts[i]);
        }
        Check.feed(x, text);
        return x;
    }

    private static void onlyIn() {
        Doc.terms(4, "Of a TEXT without FAULT the LIST has the RUNNERS that are IN");
        RunDesk x = desk(ALL, 500, 500, 500, 500, -1);
        Check.due("UNDERWAY is not in it", x.many(), 4);
        x.strike(0);
        Check.due("nor STRUCK", x.many(), 3);
        x.drop(1, true);
        Check.due("nor DROPPED", x.many(), 2);
        x.cut(1, 499);
        Check.due("nor OUT", x.many(), 0);
        x.wave(2, true);
        Check.due("one is waved through", x.many(), 1);
        Check.due("that one", x.list(0), 2);
    }

    private static void holds(RunDesk x, String tests, int want) {
        Check.write(x, tests + ";n");
        Check.due("many of " + tests, x.many(), want);
    }

    private static void onlyThoseOfItsTests() {
        Doc.terms(4, "for whom its TESTS hold");
        int[][] facts = {{0, 0, 0, 0, 0}, {3, 99, 1, 9, 5}};
        char[] words = {'k', 'y', 's', 't', 'p'};
        for (int one = 0; one < 2; one++) {
            RunDesk x = new RunDesk();
            int[] f = facts[one];
            x.runner(f[0], 300, f[1], f[2], f[3], f[4]);
            x.saw(0, 0, 0);
            x.saw(0, 1, 500);
            for (int i = 0; i < 5; i++) {
                for (int number = Math.max(0, f[i] - 1); number <= f[i] + 1; number++) {
                    holds(x, words[i] + "=" + number, f[i] == number ? 1 : 0);
                    holds(x, words[i] + "<" + number, f[i] < number ? 1 : 0);
                    holds(x, words[i] + ">" + number, f[i] > number ? 1 : 0);
                }
            }
            holds(x, "y<99999", 1);
            holds(x, "y>99999", 0);
            holds(x, "y=000" + f[1], 1);
        }
        andBindsBeforeOr();
        bracketsSideBySide();
    }

    private static void andBindsBeforeOr() {
        RunDesk y = desk("", 500);
        String[] signs = {"&", "|"};
        for (int bits = 0; bits < 32; bits++) {
            boolean a = (bits & 1) != 0;
            boolean b = (bits & 2) != 0;
            boolean c = (bits & 4) != 0;
            boolean firstAnd = (bits & 8) == 0;
            boolean secondAnd = (bits & 16) == 0;
            String one = a ? "s=0" : "s=1";
            String two = signs[firstAnd ? 0 : 1] + (b ? "s=0" : "s=1");
            String three = signs[secondAnd ? 0 : 1] + (c ? "s=0" : "s=1");
            boolean left = firstAnd ? a && b : a || b;
            boolean right = secondAnd ? b && c : b || c;
            boolean inLeft = secondAnd ? left && c : left || c;
            boolean inRight = firstAnd ? a && right : a || right;
            // & binds before |
            holds(y, one + two + three, (firstAnd ? inLeft : inRight) ? 1 : 0);
            holds(y, "(" + one + two + ")" + three, inLeft ? 1 : 0);
            holds(y, one + two.charAt(0) + "(" + two.substring(1) + three + ")", inRight ? 1 : 0);
            if (bits % 8 == 7) {
                y = desk("", 500);
            }
        }
    }

    private static void bracketsSideBySide() {
        RunDesk x = desk("", 500);
        for (int bits = 0; bits < 128; bits++) {
            boolean[] is = new boolean[7];
            for (int i = 0; i < 7; i++) {
                is[i] = (bits & 1 << i) != 0;
            }
            boolean one = is[4] ? is[0] && is[1] : is[0] || is[1];
            boolean two = is[5] ? is[2] && is[3] : is[2] || is[3];
            holds(x, bracket(is[0], is[4], is[1]) + (is[6] ? "&" : "|") + bracket(is[2], is[5], is[3]),
                (is[6] ? one && two : one || two) ? 1 : 0);
            if (bits % 32 == 31) {
                x = desk("", 500);
            }
        }
    }

    private static String bracket(boolean one, boolean and, boolean two) {
        return "(s=" + (one ? 0 : 1) + (and ? "&" : "|") + "s=" + (two ? 0 : 1) + ")";
    }

    private static void onlyWithTheTimeOfOrder() {
        Doc.terms(4, "who have the time that ORDER names");
        RunDesk x = desk("s<2;n", 500);
        Check.due("TIME", x.many(), 1);
        Check.write(x, "s<2;g");
        Check.due("no GUN TIME", x.many(), 0);
        x.gun(0, 500);
        Check.due("GUN TIME 0", x.many(), 1);
        Check.due("the sum of it", x.team(1, 1), 0);
        x.gun(0, 501);
        Check.due("GUN TIME below 0", x.many(), 0);
        Check.write(x, "s<2;n");
        Check.due("TIME still", x.many(), 1);
        x.tear(0, 0);
        x.runner(0, 300, 40, 0, 1, 1);
        x.saw(1, 1, 500);
        Check.due("IN without a START", x.many(), 0);
        x.gun(1, 500);
        Check.due("TIME 0", x.many(), 1);
        x.gun(1, 501);
        Check.due("TIME below 0", x.many(), 0);
    }

    private static void byTimeThenNumber() {
        Doc.terms(4, "by that time, then by number");
        RunDesk x = desk(ALL, 300, 200, 300, 0, 200, 40000, 199);
        int[] want = {3, 6, 1, 4, 0, 2, 5};
        for (int i = 0; i < want.length; i++) {
            Check.due("list(" + i + ")", x.list(i), want[i]);
        }
        RunDesk y = desk(ALL, 300, 300, 300);
        for (int i = 0; i < 3; i++) {
            Check.due("all alike: list(" + i + ")", y.list(i), i);
        }
    }

    private static void placeByLesserTimes() {
        Doc.terms(4, "A RUNNER's place in it is 1 more than how many have a lesser time.");
        RunDesk x = desk(ALL, 300, 200, 300, 0, 200, 301, 300);
        int[] want = {4, 2, 4, 1, 2, 7, 4};
        for (int runner = 0; runner < want.length; runner++) {
            Check.due("place(" + runner + ")", x.place(runner), want[runner]);
        }
        RunDesk y = desk(ALL, 300, 300, 300);
        for (int runner = 0; runner < 3; runner++) {
            Check.due("all alike: place(" + runner + ")", y.place(runner), 1);
        }
        // one who is quicker, but not in the LIST, has no place and takes none
        Check.write(y, "y>0;n");
        y.saw(0, 1, 1);
        Check.due("not in it", y.place(0), -1);
        Check.due("the first in it", y.place(1), 1);
    }

    private static void prizesByNumber() {
        Doc.terms(4, "PRIZES: the number (0 without): those whose place is at most that.");
        RunDesk x = desk("s<2;n", 300, 200, 300, 100, 200, 400, 300);
        int[] want = {0, 1, 3, 3, 6, 6, 6, 7, 7};
        Check.due("without a number", x.prizes(), 0);
        for (int number = 0; number < want.length; number++) {
            Check.write(x, "s<2;n;" + number);
            Check.due("prizes of " + number, x.prizes(), want[number]);
        }
        Check.write(x, "s<2;n;99999");
        Check.due("prizes of 99999", x.prizes(), 7);
        Check.write(x, "s<2;n;00001");
        Check.due("prizes of 00001", x.prizes(), 1);
        Check.write(x, "s<2;n;4");
        Check.due("prizes of 4 before", x.prizes(), 6);
        Check.write(x, "s<2;n");
        Check.due("the number before does not stay", x.prizes(), 0);
    }

    private static void list() {
        Doc.says(24, "RUNNER i (from 0 on) of the LIST by the TEXT; NONE: there is none such, or the TEXT has a FAULT.");
        RunDesk x = desk(ALL, 300, 200);
        int[] wrong = {-1, -2, 2, 3, 59, 60, 61, MIN, MAX};
        for (int i : wrong) {
            Check.due("list(" + i + ")", x.list(i), -1);
        }
        Check.due("the last", x.list(1), 0);
        Check.write(x, FAULTY);
        for (int i = -1; i < 3; i++) {
            Check.due("with a FAULT: list(" + i + ")", x.list(i), -1);
        }
        Check.write(x, "s=1;n");
        Check.due("of an empty LIST", x.list(0), -1);
        Check.due("of no RUNNERS", desk(ALL).list(0), -1);
    }

    private static void place() {
        Doc.says(25, "A RUNNER's place in it; NONE likewise.");
        RunDesk x = desk(ALL, 300, 200, -1);
        int[] wrong = {-1, -2, 2, 3, 59, 60, 61, MIN, MAX};
        for (int runner : wrong) {
            Check.due("place(" + runner + ")", x.place(runner), -1);
        }
        Check.due("place(0)", x.place(0), 2);
        Check.write(x, FAULTY);
        for (int runner = -1; runner < 4; runner++) {
            Check.due("with a FAULT: place(" + runner + ")", x.place(runner), -1);
        }
    }

    private static void many() {
        Doc.says(26, "How many it has; NONE: a FAULT.");
        Check.due("none", desk(ALL).many(), 0);
        Check.due("none IN", desk(ALL, -1).many(), 0);
        Check.due("a TEXT of no bytes", desk("", 300).many(), -1);
        Check.due("a FAULT at the end", desk(FAULTY, 300).many(), -1);
        Check.due("a FAULT in it", desk("s<2;n;1;1", 300).many(), -1);
        int[] lasts = new int[60];
        RunDesk x = desk(ALL, lasts);
        Check.due("60", x.many(), 60);
        Check.due("the sixtieth", x.list(59), 59);
        Check.due("not one more", x.list(60), -1);
        Check.due("all at place 1", x.place(59), 1);
        Check.due("all have PRIZES", x.prizes(), 60);
    }

    private static void prizes() {
        Doc.says(27, "How many have PRIZES; NONE likewise.");
        Check.due("a FAULT", desk(FAULTY, 300).prizes(), -1);
        Check.due("a TEXT of no bytes", desk("", 300).prizes(), -1);
        Check.due("none in it", desk(ALL).prizes(), 0);
        Check.due("fewer than the number", desk(ALL, 300, 200).prizes(), 2);
        Check.due("as many", desk(ALL, 300, 200, 100).prizes(), 3);
        Check.due("more", desk(ALL, 300, 200, 100, 400).prizes(), 3);
    }

    private static void bestOfATeam() {
        Doc.says(28, "The sum of the best n (1 .. 10) times (those of its ORDER) of a TEAM (1 .. 9) in it");
        RunDesk x = new RunDesk();
        x.gun(0, 0);
        for (int i = 0; i < 22; i++) {
            x.runner(0, 300, 40, i % 2, i % 2 == 0 ? 1 : 9, 0);
            x.saw(i, 0, 10);
            x.saw(i, 1, 400 - i);
        }
        Check.feed(x, "s<2;n");
        // TEAM 1: 390, 388, .., 370; TEAM 9: 389, 387, .., 369
        int sumOfOne = 0;
        int sumOfNine = 0;
        for (int n = 1; n <= 10; n++) {
            sumOfOne += 368 + 2 * n;
            sumOfNine += 367 + 2 * n;
            Check.due("TEAM 1, " + n, x.team(1, n), sumOfOne);
            Check.due("TEAM 9, " + n, x.team(9, n), sumOfNine);
        }
        Check.write(x, "s<2;g");
        Check.due("GUN TIMES", x.team(1, 10), sumOfOne + 100);
        Check.write(x, "s=0;n");
        Check.due("in the LIST", x.team(1, 10), sumOfOne);
        Check.due("not in the LIST", x.team(9, 1), -1);
        RunDesk far = new RunDesk();
        far.way(9);
        far.mat(1, 9);
        for (int i = 0; i < 10; i++) {
            far.runner(0, 300, 40, 0, 5, 0);
            far.saw(i, 0, 0);
            far.saw(i, 1, 40000);
        }
        Check.feed(far, ALL);
        Check.due("the greatest sum", far.team(5, 10), 400000);
    }

    private static void noSuchTeam() {
        Doc.says(28, "NONE: it has fewer, out of bounds, a FAULT.");
        RunDesk x = desk(ALL, 300, 200, 100, -1);
        Check.due("as many", x.team(1, 3), 600);
        Check.due("fewer", x.team(1, 4), -1);
        Check.due("a TEAM without RUNNERS", x.team(2, 1), -1);
        int[] wrong = {-1, -2, 0, MIN, MAX};
        for (int value : wrong) {
            Check.due("team(" + value + ", 1)", x.team(value, 1), -1);
            Check.due("team(1, " + value + ")", x.team(1, value), -1);
        }
        Check.due("team(10, 1)", x.team(10, 1), -1);
        Check.write(x, FAULTY);
        Check.due("a FAULT", x.team(1, 1), -1);
        RunDesk y = new RunDesk();
        for (int i = 0; i < 11; i++) {
            y.runner(0, 300, 40, 0, i < 10 ? 1 : 0, 0);
            y.saw(i, 0, 0);
            y.saw(i, 1, 100);
        }
        Check.feed(y, ALL);
        Check.due("TEAM 0 is none", y.team(0, 1), -1);
        Check.due("ten", y.team(1, 10), 1000);
        y.runner(0, 300, 40, 0, 1, 0);
        y.saw(11, 0, 0);
        y.saw(11, 1, 100);
        Check.due("eleven there, n 11", y.team(1, 11), -1);
    }

    private static void states() {
        Doc.says(29, "How many are in a STATE. 0 for others.");
        RunDesk x = new RunDesk();
        for (int state = 0; state < 6; state++) {
            Check.due("without RUNNERS: state(" + state + ")", x.state(state), 0);
        }
        for (int runner = 0; runner < 21; runner++) {
            x.runner(0, 300, 40, 0, 1, 0);
            // one is left without a START, two are UNDERWAY, .. six are OUT
            int state = 0;
            while (runner >= (state + 1) * (state + 2) / 2) {
                state++;
            }
            if (state > 0) {
                x.saw(runner, 0, 0);
            }
            if (state == 2 || state == 5) {
                x.saw(runner, 1, state == 5 ? 701 : 700);
            }
            x.drop(runner, state == 3);
            if (state == 4) {
                x.strike(runner);
            }
        }
        x.cut(1, 700);
        for (int state = 0; state < 6; state++) {
            Check.due("state(" + state + ")", x.state(state), state + 1);
        }
        int[] others = {-1, -2, 6, 7, MIN, MAX};
        for (int state : others) {
            Check.due("state(" + state + ")", x.state(state), 0);
        }
    }

    private static void counts() {
        Doc.says(30, "NONE for others.");
        RunDesk x = new RunDesk();
        int[] fresh = {2, 0, 0, 0, 0, 0, 1000};
        for (int what = 0; what < 7; what++) {
            Check.due("new: count(" + what + ")", x.count(what), fresh[what]);
        }
        int[] others = {-1, -2, 7, 8, MIN, MAX};
        for (int what : others) {
            Check.due("count(" + what + ")", x.count(what), -1);
        }
        for (int mat = 2; mat < 12; mat++) {
            x.mat(mat * 1000, 9);
        }
        for (int runner = 0; runner < 20; runner++) {
            x.runner(0, 300, 40, 0, 1, 0);
            x.strike(runner);
            for (int mat = 0; mat < 12; mat++) {
                x.saw(runner, mat, mat * 300);
            }
        }
        Check.feed(x, " ".repeat(200));
        int[] full = {12, 20, 0, 200, 20, 240, 11000};
        for (int what = 0; what < 7; what++) {
            Check.due("full: count(" + what + ")", x.count(what), full[what]);
        }
        x.saw(0, 0, 0);
        Check.due("the same SPLIT is no other", x.count(5), 240);
        x.tear(0, 1);
        Check.due("eleven TORN", x.count(5), 229);
        x.pardon();
        Check.due("one taken back", x.count(4), 19);
    }

    private static void countOfOneMat() {
        Doc.says(2, "(What needs a last MAT needs two MATS; till then there is none.)");
        RunDesk x = new RunDesk();
        x.way(1);
        Check.due("one MAT", x.count(0), 1);
        Check.due("no last MAT, so no PLACE of it", x.count(6), -1);
        x.runner(1, 300, 40, 0, 1, 0);
        x.saw(0, 0, 5);
        Check.due("not IN", x.told(0, 6), 1);
        Check.due("state(2)", x.state(2), 0);
        Check.due("no TIME", x.told(0, 9), -1);
        x.gun(0, 0);
        Check.due("no GUN TIME", x.told(0, 10), -1);
        Check.due("nothing over PACE", x.told(0, 12), -1);
        Check.feed(x, ALL);
        Check.due("nobody in the LIST", x.many(), 0);
        Check.due("nor placed", x.place(0), -1);
        Check.due("nor in a TEAM", x.team(1, 1), -1);
        Check.due("no DOUBT", x.count(2), 0);
        x.mat(1, 1);
        Check.due("two MATS", x.count(6), 1);
        Check.due("UNDERWAY still", x.told(0, 6), 1);
        x.saw(0, 1, 6);
        Check.due("IN", x.told(0, 6), 2);
        Check.due("TIME", x.told(0, 9), 1);
        Check.due("in the LIST", x.many(), 1);
    }
}
