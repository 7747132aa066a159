import java.util.ArrayList;
import java.util.Arrays;
import java.util.List;
import java.util.NoSuchElementException;

/**
 * "What is refused answers as told and changes nothing.": two desks that were made by the same calls,
 * one of which is then told what it must refuse, must go on telling the same. So must two desks one
 * of which is asked something.
 */
final class RefusedTest {
    private static final int MIN = Integer.MIN_VALUE;
    private static final int MAX = Integer.MAX_VALUE;
    private static final int DESKS = 4;

    private interface Call {
        int on(RunDesk x);
    }

    private static final class Refused {
        final String name;
        final int due;
        final Call call;

        Refused(String name, int due, Call call) {
            this.name = name;
            this.due = due;
            this.call = call;
        }
    }

    private final List<Refused> all = new ArrayList<>();
    /** MATS, RUNNERS and bytes of the desk that refuses. */
    private final int mats;
    private final int runners;
    private final int bytes;

    private RefusedTest(int mats, int runners, int bytes) {
        this.mats = mats;
        this.runners = runners;
        this.bytes = bytes;
    }

    static void run() {
        Doc.says(Doc.REFUSED, "What is refused answers as told and changes nothing.");
        int[][] sizes = {{2, 0, 0}, {1, 2, 5}, {5, 7, 9}, {12, 60, 200}};
        for (int kind = 0; kind < DESKS; kind++) {
            RunDesk x = desk(kind);
            Check.due("MATS of desk " + kind, x.count(0), sizes[kind][0]);
            Check.due("RUNNERS of desk " + kind, x.count(1), sizes[kind][1]);
            Check.due("bytes of desk " + kind, x.count(3), sizes[kind][2]);
            RefusedTest test = new RefusedTest(sizes[kind][0], sizes[kind][1], sizes[kind][2]);
            test.refuse(kind);
            test.ask();
            test.compare(kind);
        }
    }

    /** 0: a new one; 1: one MAT alone; 2: a race that goes on; 3: all is full. */
    static RunDesk desk(int kind) {
        RunDesk x = new RunDesk();
        if (kind == 1) {
            x.way(1);
            x.runner(1, 300, 40, 0, 1, 0);
            x.runner(0, 300, 40, 0, 1, 0);
            x.gun(0, 7);
            x.saw(0, 0, 9);
            x.cut(0, 9);
            Check.feed(x, "s<2;n");
        } else if (kind == 2) {
            x.mat(2000, 2);
            x.mat(3000, 1);
            x.mat(4000, 1);
            enter(x, 7);
            Check.feed(x, "s<2;n;2  ");
        } else if (kind == 3) {
            x.way(2);
            for (int mat = 1; mat < 11; mat++) {
                x.mat(1000 * mat, 1 + mat % 3);
            }
            x.mat(100000, 1);
            enter(x, 60);
            Check.feed(x, "s<2;n;2".concat(" ".repeat(193)));
            x.image();
        }
        return x;
    }

    private static void enter(RunDesk x, int runners) {
        for (int runner = 0; runner < runners; runner++) {
            x.runner(runner % 4, 200 + runner, runner, runner % 2, runner % 10, runner % 6);
        }
        x.gun(0, 7);
        x.gun(2, 700);
        int last = x.count(0) - 1;
        for (int runner = 0; runner < 7; runner++) {
            x.saw(runner, 0, 10 + runner);
            x.saw(runner, last, 3000 - 10 * runner);
        }
        x.saw(1, 2, 800);
        x.tear(2, 2);
        x.drop(3, true);
        x.wave(4, true);
        x.strike(5);
        x.strike(1);
        x.dead(1, true);
        x.cut(last, 2965);
    }

    private void add(String name, int due, Call call) {
        all.add(new Refused(name, due, call));
    }

    private static int bit(boolean is) {
        return is ? 1 : 0;
    }

    private void refuse(int kind) {
        for (int wrong : new int[] {0, -1, 1001, MIN, MAX}) {
            add("way(" + wrong + ")", 0, x -> bit(x.way(wrong)));
            add("mat(99999, " + wrong + ")", -1, x -> x.mat(99999, wrong));
        }
        for (int wrong : new int[] {-1, 0, 100001, MIN, MAX}) {
            add("mat(" + wrong + ", 9)", -1, x -> x.mat(wrong, 9));
        }
        refuseRunners();
        refuseRunnersAndMats();
        for (int wrong : new int[] {-1, 6, MIN, MAX}) {
            add("gun(" + wrong + ", 5)", 0, x -> bit(x.gun(wrong, 5)));
            add("gun(" + wrong + ", -1)", 0, x -> bit(x.gun(wrong, -1)));
        }
        for (int wrong : new int[] {-2, 40001, MIN, MAX}) {
            add("gun(0, " + wrong + ")", 0, x -> bit(x.gun(0, wrong)));
            add("cut(0, " + wrong + ")", 0, x -> bit(x.cut(0, wrong)));
            add("saw(0, 0, " + wrong + ")", -1, x -> x.saw(0, 0, wrong));
        }
        add("saw(0, 0, -1)", -1, x -> x.saw(0, 0, -1));
        refusePlans();
        refuseBytes();
        if (kind < 2) {
            add("pardon()", -1, RunDesk::pardon);
        } else {
            add("strike(5), STRUCK already", 0, x -> bit(x.strike(5)));
            add("saw(0, 1, 0), DEAD", -1, x -> x.saw(0, 1, 0));
            add("saw(2, 2, 0), TORN", -1, x -> x.saw(2, 2, 0));
            add("saw(2, last, 0), TORN", -1, x -> x.saw(2, mats - 1, 0));
            add("saw(0, 0, 10), at that tick", 0, x -> x.saw(0, 0, 10));
            add("saw(0, 0, 40000), behind it", 0, x -> x.saw(0, 0, 40000));
        }
        if (kind == 3) {
            add("plan(0, 3000), none", -1, x -> x.plan(0, 3000));
            add("a thirteenth MAT", -1, x -> x.mat(100000, 9));
            add("a sixty-first RUNNER", -1, x -> x.runner(0, 300, 40, 0, 1, 0));
        } else {
            add("back()", 1, x -> {
                try {
                    x.back();
                    return 0;
                } catch (NoSuchElementException e) {
                    return 1;
                }
            });
        }
    }

    private void refuseRunners() {
        int[][] wrong = {{-1, 4}, {59, 2001}, {-1, 100}, {-1, 2}, {-1, 10}, {-1, 6}};
        for (int fact = 0; fact < 6; fact++) {
            for (int value : new int[] {wrong[fact][0], wrong[fact][1], MIN, MAX}) {
                int[] a = {0, 300, 40, 0, 1, 0};
                a[fact] = value;
                add("runner(" + Arrays.toString(a) + ")", -1,
                    x -> x.runner(a[0], a[1], a[2], a[3], a[4], a[5]));
            }
        }
    }

    private void refuseRunnersAndMats() {
        for (int wrong : new int[] {-1, runners, 60, MIN, MAX}) {
            for (int i = 0; i < 2; i++) {
                boolean is = i == 0;
                add("drop(" + wrong + ", " + is + ")", 0, x -> bit(x.drop(wrong, is)));
                add("wave(" + wrong + ", " + is + ")", 0, x -> bit(x.wave(wrong, is)));
            }
            add("saw(" + wrong + ", 0, 5)", -1, x -> x.saw(wrong, 0, 5));
            add("tear(" + wrong + ", 0)", 0, x -> bit(x.tear(wrong, 0)));
            add("strike(" + wrong + ")", 0, x -> bit(x.strike(wrong)));
        }
        for (int wrong : new int[] {-1, mats, 12, MIN, MAX}) {
            add("dead(" + wrong + ", true)", 0, x -> bit(x.dead(wrong, true)));
            add("dead(" + wrong + ", false)", 0, x -> bit(x.dead(wrong, false)));
            add("cut(" + wrong + ", 0)", 0, x -> bit(x.cut(wrong, 0)));
            add("cut(" + wrong + ", -1)", 0, x -> bit(x.cut(wrong, -1)));
            add("saw(0, " + wrong + ", 5)", -1, x -> x.saw(0, wrong, 5));
            add("tear(0, " + wrong + ")", 0, x -> bit(x.tear(0, wrong)));
        }
    }

    private void refusePlans() {
        for (int wrong : new int[] {-1, 10001, MIN, MAX}) {
            add("plan(" + wrong + ", 3000)", -1, x -> x.plan(wrong, 3000));
        }
        for (int wrong : new int[] {-1, 3001, MIN, MAX}) {
            add("plan(0, " + wrong + ")", -1, x -> x.plan(0, wrong));
        }
    }

    private void refuseBytes() {
        for (int wrong : new int[] {-1, bytes + 1, 201, MIN, MAX}) {
            add("end(" + wrong + ")", 0, x -> bit(x.end(wrong)));
        }
        add("end at its end", 1, x -> bit(x.end(bytes)));
        add("feed(0)", bytes, x -> x.feed(0));
        if (bytes == 200) {
            for (int more : new int[] {'x', 'x' << 24, 0x78780000, -1, MIN, MAX}) {
                add("feed(" + more + ")", -1, x -> x.feed(more));
            }
        }
    }

    /** What only asks changes nothing; its answer is looked at elsewhere. */
    private void ask() {
        for (int what = -1; what < 15; what++) {
            int a = what;
            asks("told(0, " + a + ")", x -> x.told(0, a));
            asks("count(" + a + ")", x -> x.count(a));
            asks("state(" + a + ")", x -> x.state(a));
            asks("list(" + a + ")", x -> x.list(a));
            asks("place(" + a + ")", x -> x.place(a));
            asks("split(" + a + ", 0)", x -> x.split(a, 0));
            asks("guess(0, " + a + ", false)", x -> x.guess(0, a, false));
            asks("guess(" + a + ", 1, true)", x -> x.guess(a, 1, true));
            asks("doubt(" + a + ", 1)", x -> x.doubt(a, 1));
            asks("foretold(" + a + ", 1)", x -> x.foretold(a, 1));
            asks("tight(" + a + ")", x -> x.tight(a));
            asks("team(" + a + ", 1)", x -> x.team(a, 1));
            asks("team(1, " + a + ")", x -> x.team(1, a));
        }
        asks("fault()", RunDesk::fault);
        asks("many()", RunDesk::many);
        asks("prizes()", RunDesk::prizes);
    }

    private void asks(String name, Call call) {
        add(name, MIN, call);
    }

    private void compare(int kind) {
        int[] untouched = new Whole().of(desk(kind));
        for (Refused one : all) {
            RunDesk x = desk(kind);
            int got = one.call.on(x);
            if (one.due != MIN) {
                Check.due("desk " + kind + ": " + one.name, got, one.due);
            }
            int[] now = new Whole().of(x);
            int differs = Arrays.mismatch(untouched, now);
            Check.due("desk " + kind + ": answer that " + one.name + " changed", differs, -1);
        }
    }
}
