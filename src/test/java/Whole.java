import java.util.Arrays;
import java.util.NoSuchElementException;

/** All that a desk tells of what it holds, so that two desks can be held side by side. */
final class Whole {
    private static final int MOST_CALLS = 512;

    private int[] told;
    private int answers;

    private void tell(int answer) {
        told[answers] = answer;
        answers++;
    }

    /** The desk is used up by that. */
    int[] of(RunDesk x) {
        told = new int[MOST_CALLS];
        answers = 0;
        int whole = x.count(0);
        int there = x.count(1);
        for (int what = 0; what < 7; what++) {
            tell(x.count(what));
            tell(x.state(what));
        }
        for (int runner = 0; runner < there; runner = runner == 6 ? 59 : runner + 1) {
            for (int what = runner < 6 ? 4 : 0; what < 14; what++) {
                tell(x.told(runner, what));
            }
            tell(x.place(runner));
        }
        for (int mat = 0; mat < whole; mat++) {
            tell(x.tight(mat));
            tell(x.split(0, mat));
            tell(x.split(1, mat));
            tell(x.guess(1, mat, false));
            tell(x.guess(2, mat, true));
        }
        tell(x.doubt(0, 1));
        tell(x.doubt(1, 2));
        tell(x.fault());
        tell(x.prizes());
        tell(x.list(0));
        tell(x.team(1, 1));
        useUp(x, whole);
        Check.yes("an object is asked 512 times at most", answers + 280 <= MOST_CALLS);
        return Arrays.copyOf(told, answers);
    }

    /** What no call tells by itself: who is waved through, what is DEAD or TORN, what is kept. */
    private void useUp(RunDesk x, int whole) {
        for (int mat = 0; mat < whole; mat++) {
            tell(x.saw(0, mat, 0));
            tell(x.saw(6, mat, 39000));
        }
        tell(x.told(6, 6));
        for (int runner = 0; runner < 6; runner++) {
            tell(x.tear(runner, 0) ? 1 : 0);
            // the GUN of each PEN
            tell(x.told(runner, 7));
        }
        tell(x.pardon());
        tell(x.pardon());
        tell(x.pardon());
        tell(x.mat(100000, 1));
        boolean came = true;
        try {
            x.back();
        } catch (NoSuchElementException e) {
            came = false;
        }
        tell(came ? 1 : 0);
        tell(x.count(0));
        tell(x.count(1));
        tell(x.count(4));
        tell(x.count(5));
        tell(x.told(0, 6));
    }
}
