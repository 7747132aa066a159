/** Promises 24 to 28: list, place, many, prizes, team. */
final class ListTest {
    private static final int MIN = Integer.MIN_VALUE;
    private static final int MAX = Integer.MAX_VALUE;

    private ListTest() {
    }

    static void run() {
        tests();
        orders();
        places();
        onlyThoseIn();
        prizes();
        team();
        withFault();
        sixtyWithTies();
    }

    /** Six RUNNERS that are IN, but for the last one, who has no TIME; PEN 0 has a GUN. */
    private static RunDesk desk() {
        RunDesk x = new RunDesk();
        x.gun(0, 100);
        enter(x, 0, 40, 0, 1, 0, 110, 500);
        enter(x, 1, 39, 1, 1, 0, 150, 510);
        enter(x, 2, 41, 0, 2, 0, 120, 480);
        enter(x, 3, 40, 1, 2, 1, 200, 560);
        enter(x, 0, 12, 0, 1, 1, 100, 490);
        enter(x, 0, 99, 0, 1, 1, -1, 490);
        return x;
    }

    private static void enter(RunDesk x, int kind, int year, int sex, int team, int pen, int start, int last) {
        int runner = x.runner(kind, 300, year, sex, team, pen);
        x.saw(runner, 0, start);
        x.saw(runner, 1, last);
    }

    private static void listed(RunDesk x, String text, int... runners) {
        Check.write(x, text);
        Check.due("many of " + text, x.many(), runners.length);
        for (int i = 0; i < runners.length; i++) {
            Check.due("list(" + i + ") of " + text, x.list(i), runners[i]);
        }
        Check.due("list behind the end of " + text, x.list(runners.length), -1);
        for (int runner = 0; runner < 6; runner++) {
            boolean is = false;
            for (int other : runners) {
                is = is || other == runner;
            }
            Check.due("is " + runner + " placed by " + text, x.place(runner) == -1 ? 0 : 1, is ? 1 : 0);
        }
    }

    private static void tests() {
        RunDesk x = desk();
        // TIMES: 390, 360, 360, 360, 390, none
        listed(x, "s<2;n", 1, 2, 3, 0, 4);
        listed(x, "s=0;n", 2, 0, 4);
        listed(x, "s=1;n", 1, 3);
        listed(x, "y<40;n", 1, 4);
        listed(x, "y=40;n", 3, 0);
        listed(x, "y>40;n", 2);
        listed(x, "t=2;n", 2, 3);
        listed(x, "p=1;n", 3, 4);
        listed(x, "k>1;n", 2, 3);
        listed(x, "k=1;n", 1);
        listed(x, "s=1|k=2;n", 1, 2, 3);
        listed(x, "s=1&t=1;n", 1);
        listed(x, "t=2&s=1|y=12;n", 3, 4);
        listed(x, "y=12|t=2&s=1;n", 3, 4);
        listed(x, "(y=12|t=2)&s=1;n", 3);
        listed(x, "s=1&(y=12|t=2);n", 3);
        listed(x, "s=1&(y=12|t=9)|k=0&(p=0|p=5);n", 0);
        listed(x, "((((((((s=1))))))));n", 1, 3);
        listed(x, "(s=1)&(t=1)|((s=0))&((t=2));n", 1, 2);
        listed(x, "s=2;n");
        listed(x, "s>0&s<1;n");
        listed(x, "y<99999;n", 1, 2, 3, 0, 4);
        listed(x, "y=00040;n", 3, 0);
        listed(x, "y=040 & s = 00;n", 0);
    }

    private static void orders() {
        RunDesk x = desk();
        // GUN TIMES: 400, 410, 380; PEN 1 has no GUN
        listed(x, "s<2;g", 2, 0, 1);
        x.gun(1, 0);
        listed(x, "s<2;g", 2, 0, 1, 4, 5, 3);
        listed(x, "s<2;n", 1, 2, 3, 0, 4, 5);
    }

    private static void places() {
        RunDesk x = desk();
        Check.write(x, "s<2;n");
        int[] want = {4, 1, 1, 1, 4, -1};
        for (int runner = 0; runner < 6; runner++) {
            Check.due("place(" + runner + ")", x.place(runner), want[runner]);
        }
        int[] wrong = {-1, 6, 59, 60, MIN, MAX};
        for (int runner : wrong) {
            Check.due("place(" + runner + ")", x.place(runner), -1);
        }
        int[] noIndex = {-1, 5, 60, MIN, MAX};
        for (int i : noIndex) {
            Check.due("list(" + i + ")", x.list(i), -1);
        }
        Check.write(x, "s=0;n");
        Check.due("a place in this LIST", x.place(0), 2);
        Check.due("a tie in this LIST", x.place(4), 2);
    }

    private static void onlyThoseIn() {
        RunDesk x = desk();
        x.strike(1);
        listed(x, "s<2;n", 2, 3, 0, 4);
        x.drop(2, true);
        listed(x, "s<2;n", 3, 0, 4);
        x.cut(0, 199);
        listed(x, "s<2;n", 0, 4);
        x.wave(3, true);
        listed(x, "s<2;n", 3, 0, 4);
        x.tear(4, 1);
        listed(x, "s<2;n", 3, 0);
        x.mat(2000, 5);
        listed(x, "s<2;n");
    }

    private static void prizes(RunDesk x, String text, int want) {
        Check.write(x, text);
        Check.due("prizes of " + text, x.prizes(), want);
    }

    private static void prizes() {
        RunDesk x = desk();
        prizes(x, "s<2;n", 0);
        prizes(x, "s<2;n;0", 0);
        prizes(x, "s<2;n;1", 3);
        prizes(x, "s<2;n;3", 3);
        prizes(x, "s<2;n;4", 5);
        prizes(x, "s<2;n;99999", 5);
        prizes(x, "s<2;n;00001", 3);
        prizes(x, "s<2;g;2", 2);
        prizes(x, "s=1 ; n ; 10 ", 2);
        prizes(x, "s=5;n;10", 0);
    }

    private static void team() {
        RunDesk x = desk();
        x.saw(5, 0, 200);
        // TEAM 1 has 390, 360, 390 and 290
        Check.write(x, "s<2;n");
        Check.due("the best", x.team(1, 1), 290);
        Check.due("two", x.team(1, 2), 650);
        Check.due("three", x.team(1, 3), 1040);
        Check.due("four", x.team(1, 4), 1430);
        Check.due("five", x.team(1, 5), -1);
        Check.due("TEAM 2", x.team(2, 2), 720);
        Check.due("TEAM 3", x.team(3, 1), -1);
        Check.no("no TEAM 10", x.runner(0, 300, 40, 0, 10, 0) >= 0);
        int[] teams = {-1, 0, 10, MIN, MAX};
        for (int team : teams) {
            Check.due("team(" + team + ", 1)", x.team(team, 1), -1);
        }
        int[] ns = {-1, 0, 11, MIN, MAX};
        for (int n : ns) {
            Check.due("team(1, " + n + ")", x.team(1, n), -1);
        }
        Check.write(x, "s=0;n");
        Check.due("of those in the LIST", x.team(1, 2), 680);
        Check.due("fewer in the LIST", x.team(1, 4), -1);
        Check.write(x, "s<2;g");
        Check.due("the times of ORDER", x.team(1, 2), 810);
        RunDesk y = new RunDesk();
        for (int i = 0; i < 13; i++) {
            enter(y, 0, 40, 0, i == 3 ? 0 : 9, 0, 0, 200 + i);
        }
        Check.write(y, "s=0;n");
        Check.due("ten of TEAM 9", y.team(9, 10), 2000 + 0 + 1 + 2 + 4 + 5 + 6 + 7 + 8 + 9 + 10);
        Check.due("eleven are too many", y.team(9, 11), -1);
        Check.due("TEAM 0 is none", y.team(0, 1), -1);
    }

    private static void withFault() {
        RunDesk x = desk();
        String[] texts = {"", "s<2", "s<2;", "s<2;n;", "s<2;n;n", "(s<2;n"};
        for (String text : texts) {
            Check.write(x, text);
            Check.due("many of '" + text + "'", x.many(), -1);
            Check.due("list of '" + text + "'", x.list(0), -1);
            Check.due("place of '" + text + "'", x.place(0), -1);
            Check.due("prizes of '" + text + "'", x.prizes(), -1);
            Check.due("team of '" + text + "'", x.team(1, 1), -1);
        }
        Check.write(x, "s<2;n");
        Check.due("a TEXT without FAULT after them", x.many(), 5);
    }

    private static void sixtyWithTies() {
        RunDesk x = new RunDesk();
        for (int i = 0; i < 60; i++) {
            enter(x, 0, 40, 0, 1 + i % 9, 0, 0, 500 - i / 2);
        }
        Check.write(x, "s=0;n;3");
        Check.due("many", x.many(), 60);
        for (int i = 0; i < 60; i++) {
            int runner = 58 - i / 2 * 2 + i % 2;
            Check.due("list(" + i + ")", x.list(i), runner);
            Check.due("place(" + runner + ")", x.place(runner), i / 2 * 2 + 1);
        }
        Check.due("prizes", x.prizes(), 4);
        Check.write(x, "s=0;n;12");
        Check.due("prizes of 12", x.prizes(), 12);
        Check.write(x, "s=0;n;00013");
        Check.due("prizes of 13", x.prizes(), 14);
    }
}
