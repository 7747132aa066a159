import java.util.NoSuchElementException;

/** "An object is used for at most 512 calls": till the last one of them each call answers as told. */
final class LongUseTest {
    private static final int CALLS = 512;

    private interface Call {
        int on(RunDesk x);
    }

    private int calls;

    private LongUseTest() {
    }

    static void run() {
        Doc.says(Doc.USE, "An object is used for at most 512 calls after it has been made");
        new LongUseTest().sameAnswers();
        new LongUseTest().everyCallAsTheLast();
        new LongUseTest().manyImages();
        new LongUseTest().manyStrikings();
        new LongUseTest().manyBytes();
        new LongUseTest().manyWays();
        new LongUseTest().manySplits();
        new LongUseTest().manyRefused();
    }

    private static int bit(boolean is) {
        return is ? 1 : 0;
    }

    /** All MATS and RUNNERS, the TEXT of 200 bytes; RUNNER i comes in at 6,000 and i. */
    private RunDesk full() {
        RunDesk x = new RunDesk();
        x.way(1000);
        for (int mat = 1; mat < 12; mat++) {
            x.mat(mat * 1000, mat < 11 ? 1000 : 1);
        }
        for (int runner = 0; runner < 60; runner++) {
            x.runner(0, 300, 40, 0, 1, 0);
            x.saw(runner, 11, 6000 + runner);
        }
        x.gun(0, 0);
        Check.feed(x, "(".repeat(8) + "s=0|y=1" + ")".repeat(8) + " ".repeat(169) + ";n;00020");
        x.image();
        calls = 1 + 11 + 120 + 1 + 50 + 1;
        return x;
    }

    private void allTheSame(String name, int due, Call call) {
        RunDesk x = full();
        int wrong = 0;
        while (calls < CALLS) {
            calls++;
            wrong += call.on(x) == due ? 0 : 1;
        }
        Check.due("wrong answers of " + name, wrong, 0);
    }

    private void sameAnswers() {
        allTheSame("way", 1, x -> bit(x.way(5)));
        allTheSame("told", 6059, x -> x.told(59, 9));
        allTheSame("guess", 6059, x -> x.guess(59, 11, true));
        allTheSame("guess of what is shut in", 5159, x -> x.guess(59, 10, false));
        allTheSame("doubt", 10, x -> x.doubt(599, 1));
        allTheSame("DOUBTS", 600, x -> x.count(2));
        allTheSame("foretold", 60, x -> x.foretold(11, 55));
        allTheSame("tight", 55, x -> x.tight(11));
        allTheSame("state", 60, x -> x.state(2));
        allTheSame("fault", -1, RunDesk::fault);
        allTheSame("list", 59, x -> x.list(59));
        allTheSame("place", 60, x -> x.place(59));
        allTheSame("many", 60, RunDesk::many);
        allTheSame("prizes", 20, RunDesk::prizes);
        allTheSame("team", 60045, x -> x.team(1, 10));
        allTheSame("feed", -1, x -> x.feed('x'));
        allTheSame("feed of 0", 200, x -> x.feed(0));
        allTheSame("end", 1, x -> bit(x.end(200)));
        allTheSame("tear", 1, x -> bit(x.tear(59, 11)));
        allTheSame("a MAT too many", -1, x -> x.mat(20000, 5));
        allTheSame("a RUNNER too many", -1, x -> x.runner(0, 300, 40, 0, 1, 0));
        allTheSame("plan", -1, x -> x.plan(0, 3000));
    }

    private void last(String name, int due, Call call) {
        RunDesk x = full();
        while (calls < CALLS - 1) {
            calls++;
            x.count(calls % 7);
        }
        Check.due("the last call, " + name, call.on(x), due);
    }

    private void everyCallAsTheLast() {
        last("way", 1, x -> bit(x.way(5)));
        last("mat", -1, x -> x.mat(20000, 5));
        last("runner", -1, x -> x.runner(0, 300, 40, 0, 1, 0));
        last("gun", 1, x -> bit(x.gun(5, 40000)));
        last("saw", 1, x -> x.saw(59, 11, 0));
        last("dead", 1, x -> bit(x.dead(11, true)));
        last("tear", 1, x -> bit(x.tear(59, 0)));
        last("drop", 1, x -> bit(x.drop(59, true)));
        last("cut", 1, x -> bit(x.cut(11, 40000)));
        last("wave", 1, x -> bit(x.wave(59, true)));
        last("strike", 1, x -> bit(x.strike(59)));
        last("pardon", -1, RunDesk::pardon);
        last("told", 6059, x -> x.told(59, 9));
        last("split", 6059, x -> x.split(59, 11));
        last("guess", 5909, x -> x.guess(59, 10, true));
        last("doubt", 59, x -> x.doubt(599, 0));
        last("foretold", 60, x -> x.foretold(11, 55));
        last("tight", 55, x -> x.tight(11));
        last("plan", -1, x -> x.plan(10000, 3000));
        last("feed", -1, x -> x.feed('x'));
        last("end", 1, x -> bit(x.end(0)));
        last("fault", -1, RunDesk::fault);
        last("list", 59, x -> x.list(59));
        last("place", 60, x -> x.place(59));
        last("many", 60, RunDesk::many);
        last("prizes", 20, RunDesk::prizes);
        last("team", 60045, x -> x.team(1, 10));
        last("state", 60, x -> x.state(2));
        last("count", 11000, x -> x.count(6));
        last("image", 0, x -> {
            x.image();
            return 0;
        });
        last("back", 0, x -> {
            x.back();
            return 0;
        });
    }

    private void manyImages() {
        RunDesk x = full();
        int wrong = 0;
        while (calls + 5 <= CALLS) {
            calls += 5;
            x.strike(calls % 60);
            x.image();
            x.way(1 + calls % 1000);
            x.back();
            wrong += x.count(1) == 60 ? 0 : 1;
        }
        Check.due("images that did not come back", wrong, 0);
        RunDesk y = new RunDesk();
        int thrown = 0;
        for (int i = 0; i < CALLS; i++) {
            try {
                y.back();
            } catch (NoSuchElementException e) {
                thrown++;
            }
        }
        Check.due("back throws each time", thrown, CALLS);
    }

    private void manyStrikings() {
        RunDesk x = full();
        int wrong = 0;
        while (calls + 2 <= CALLS) {
            calls += 2;
            wrong += x.strike(calls % 60) ? 0 : 1;
            wrong += x.pardon() == calls % 60 ? 0 : 1;
        }
        Check.due("strikings that were not taken back", wrong, 0);
        RunDesk y = new RunDesk();
        y.runner(0, 300, 40, 0, 1, 0);
        int struck = 0;
        for (int i = 0; i < CALLS - 2; i++) {
            struck += bit(y.strike(0));
        }
        Check.due("STRUCK once", struck, 1);
        Check.due("one striking", y.count(4), 1);
    }

    private void manyBytes() {
        RunDesk x = new RunDesk();
        int wrong = 0;
        for (int i = 0; i < CALLS - 1; i++) {
            int due = i < 50 ? 4 * (i + 1) : -1;
            wrong += x.feed(0x28282828) == due ? 0 : 1;
        }
        Check.due("wrong answers of feed", wrong, 0);
        Check.due("the FAULT", x.fault(), 8);
        RunDesk y = new RunDesk();
        for (int i = 0; i < CALLS / 2; i++) {
            wrong += y.feed(-1) == 4 ? 0 : 1;
            wrong += y.end(0) ? 0 : 1;
        }
        Check.due("bytes fed and ended", wrong, 0);
    }

    private void manyWays() {
        RunDesk x = new RunDesk();
        int wrong = 0;
        for (int i = 0; i < CALLS / 16; i++) {
            wrong += x.way(1) ? 0 : 1;
            for (int mat = 1; mat < 12; mat++) {
                wrong += x.mat(mat, 1) == mat ? 0 : 1;
            }
            wrong += x.runner(0, 300, 40, 0, 1, 0) == 0 ? 0 : 1;
            wrong += x.saw(0, 11, 5) == 1 ? 0 : 1;
            wrong += x.strike(0) ? 0 : 1;
            wrong += x.count(4) == 1 ? 0 : 1;
        }
        Check.due("wrong answers on new WAYS", wrong, 0);
    }

    private void manySplits() {
        RunDesk x = new RunDesk();
        x.runner(0, 300, 40, 0, 1, 0);
        int wrong = 0;
        for (int i = 0; i < CALLS - 2; i++) {
            wrong += x.saw(0, 0, 40000 - i) == 1 ? 0 : 1;
        }
        Check.due("an earlier tick each time", wrong, 0);
        Check.due("the earliest", x.split(0, 0), 40000 - CALLS + 3);
        RunDesk y = new RunDesk();
        y.runner(0, 300, 40, 0, 1, 0);
        for (int i = 0; i < CALLS - 2; i++) {
            wrong += y.saw(0, 0, i) == (i == 0 ? 1 : 0) ? 0 : 1;
        }
        Check.due("a later tick each time", wrong, 0);
        Check.due("one SPLIT", y.count(5), 1);
    }

    private void manyRefused() {
        RunDesk x = new RunDesk();
        int wrong = 0;
        for (int i = 0; i < CALLS / 2 - 1; i++) {
            wrong += x.mat(1000, 1) == -1 ? 0 : 1;
            wrong += x.runner(4, 300, 40, 0, 1, 0) == -1 ? 0 : 1;
        }
        Check.due("what is refused", wrong, 0);
        Check.due("changes nothing: MATS", x.count(0), 2);
        Check.due("changes nothing: RUNNERS", x.count(1), 0);
    }
}
