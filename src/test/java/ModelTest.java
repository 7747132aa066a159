import java.util.Arrays;
import java.util.NoSuchElementException;

/**
 * RunDesk and SlowDesk side by side: runs of up to 512 calls, drawn from fixed seeds, with ordinary,
 * edge and wild arguments. An answer that differs, or an exception that is not due, is wrong.
 */
final class ModelTest {
    private static final int RUNS = 150;
    private static final int CALLS = 512;
    private static final int[] WILD = {
        Integer.MIN_VALUE, Integer.MAX_VALUE, -1, -2, 0, 1, 12, 13, 60, 61, 40000, 40001, 1 << 30, -60
    };
    private static final String[] PIECES = {
        "s=1", "y<40", "t>2", "p=0", "k=1", "k<3", "s<2", "(", ")", "&", "|", ";n", ";g", ";", "n", "g", "3",
        " ", "12345", "=", "y>0", ";n;2", ";g;10", "s", "t<9"
    };

    private long seed;
    private RunDesk desk;
    private SlowDesk slow;
    private StringBuilder calls;
    private int spread;

    private ModelTest(long seed) {
        this.seed = seed;
    }

    static void run() {
        for (int run = 0; run < RUNS; run++) {
            if (!new ModelTest(run).agrees(run)) {
                return;
            }
        }
    }

    private boolean agrees(int run) {
        desk = new RunDesk();
        slow = new SlowDesk();
        calls = new StringBuilder();
        spread = 1 + draw(4) * draw(3);
        int before = Check.wrong();
        for (int call = 0; call < CALLS && Check.wrong() == before; call++) {
            int kind = draw(100);
            try {
                if (call < 40 ? kind < 95 : kind < 50) {
                    change();
                } else {
                    ask();
                }
            } catch (RuntimeException e) {
                Check.due("an exception: " + e, 1, 0);
            }
        }
        if (Check.wrong() != before) {
            System.out.println("model run " + run + ", its last calls: " + calls.substring(
                Math.max(0, calls.length() - 1500)));
        }
        return Check.wrong() == before;
    }

    private int draw(int bound) {
        seed = seed * 6364136223846793005L + 1442695040888963407L;
        return (int) ((seed >>> 33) % bound);
    }

    /** A number from 0 to just behind a bound, seldom a wild one. */
    private int near(int bound) {
        return draw(40) == 0 ? WILD[draw(WILD.length)] : draw(bound + 1);
    }

    private int some(int most) {
        return draw(60) == 0 ? WILD[draw(WILD.length)] : draw(most);
    }

    private int aRunner() {
        return near(Math.max(1, slow.count(1)));
    }

    private int aMat() {
        return near(slow.count(0));
    }

    private void same(String call, int got, int want) {
        calls.append(call).append(" = ").append(got).append("; ");
        Check.due(call, got, want);
    }

    private void same(String call, boolean got, boolean want) {
        same(call, got ? 1 : 0, want ? 1 : 0);
    }

    private void change() {
        int kind = draw(100);
        if (kind < 12) {
            enterRunner();
        } else if (kind < 18) {
            addMat();
        } else if (kind < 55) {
            see();
        } else if (kind < 78) {
            changeText();
        } else if (kind < 79 && draw(3) == 0) {
            int bears = 1 + near(3);
            same("way(" + bears + ")", desk.way(bears), slow.way(bears));
        } else if (kind < 84) {
            keepOrBring();
        } else {
            changeMarks();
        }
    }

    private void enterRunner() {
        int[] a = {near(4), 60 + some(1941), some(100), near(2), near(4), near(6)};
        if (draw(2) == 0) {
            a[1] = 280 + draw(20);
        }
        same("runner(" + Arrays.toString(a) + ")", desk.runner(a[0], a[1], a[2], a[3], a[4], a[5]),
            slow.runner(a));
    }

    private void addMat() {
        int last = Math.max(0, slow.count(6));
        int place = last + some(draw(3) == 0 ? 30 : 1 + 3000 * spread);
        int bears = 1 + near(4);
        same("mat(" + place + ", " + bears + ")", desk.mat(place, bears), slow.mat(place, bears));
    }

    private void see() {
        int runner = aRunner();
        int mat = aMat();
        int metres = mat > 0 && mat < slow.mats.size() ? slow.mats.get(mat)[0] : 0;
        int tick = some(200) + metres * (100 + draw(500)) / 1000;
        if (draw(4) == 0) {
            tick = tick / 50 * 50;
        }
        same("saw(" + runner + ", " + mat + ", " + tick + ")", desk.saw(runner, mat, tick),
            slow.saw(runner, mat, tick));
    }

    private void changeText() {
        if (draw(3) == 0) {
            int n = draw(4) == 0 ? 0 : near(1 + slow.count(3));
            same("end(" + n + ")", desk.end(n), slow.end(n));
        }
        String more = draw(5) == 0 ? slow.count(3) == 0 ? "s<2;n;3" : PIECES[draw(PIECES.length)]
            : PIECES[draw(PIECES.length)];
        if (draw(30) == 0) {
            int bytes = draw(1 << 30) * 4 + draw(4);
            same("feed(" + bytes + ")", desk.feed(bytes), slow.feed(bytes));
        }
        for (int i = 0; i < more.length(); i += 4) {
            int four = 0;
            for (int k = i; k < i + 4; k++) {
                four = four << 8 | (k < more.length() ? more.charAt(k) : 0);
            }
            same("feed(" + four + ")", desk.feed(four), slow.feed(four));
        }
        same("fault()", desk.fault(), slow.fault());
    }

    private void keepOrBring() {
        if (draw(2) == 0) {
            calls.append("image(); ");
            desk.image();
            slow.image();
            return;
        }
        boolean came = true;
        try {
            desk.back();
        } catch (NoSuchElementException e) {
            came = false;
        }
        same("back()", came, slow.back());
    }

    private void changeMarks() {
        int runner = aRunner();
        int mat = aMat();
        boolean is = draw(2) == 0;
        int tick = draw(5) == 0 ? -1 : draw(2) == 0 ? some(40001) : some(3000);
        int pen = near(6);
        switch (draw(12)) {
            case 0:
                same("dead(" + mat + ", " + is + ")", desk.dead(mat, is), slow.dead(mat, is));
                break;
            case 1:
                if (draw(4) == 0) {
                    same("tear(" + runner + ", " + mat + ")", desk.tear(runner, mat), slow.tear(runner, mat));
                }
                break;
            case 2:
                same("drop(" + runner + ", " + is + ")", desk.drop(runner, is), slow.drop(runner, is));
                break;
            case 3:
                same("cut(" + mat + ", " + tick + ")", desk.cut(mat, tick), slow.cut(mat, tick));
                break;
            case 4:
                same("wave(" + runner + ", " + is + ")", desk.wave(runner, is), slow.wave(runner, is));
                break;
            case 5:
                same("strike(" + runner + ")", desk.strike(runner), slow.strike(runner));
                break;
            case 6:
                same("pardon()", desk.pardon(), slow.pardon());
                break;
            case 7:
                int from = some(10001);
                int most = draw(10) == 0 ? some(3002) : some(200);
                same("plan(" + from + ", " + most + ")", desk.plan(from, most), slow.plan(from, most));
                break;
            default:
                int gun = draw(2) == 0 ? draw(300) : tick;
                same("gun(" + pen + ", " + gun + ")", desk.gun(pen, gun), slow.gun(pen, gun));
                break;
        }
    }

    private void ask() {
        int runner = aRunner();
        int mat = aMat();
        boolean is = draw(2) == 0;
        int what = near(14);
        switch (draw(13)) {
            case 0:
                same("told(" + runner + ", " + what + ")", desk.told(runner, what), slow.told(runner, what));
                break;
            case 1:
                same("split(" + runner + ", " + mat + ")", desk.split(runner, mat), slow.split(runner, mat));
                break;
            case 2:
                same("guess(" + runner + ", " + mat + ", " + is + ")", desk.guess(runner, mat, is),
                    slow.guess(runner, mat, is));
                break;
            case 3:
                int i = near(1 + slow.count(2));
                what = near(3);
                same("doubt(" + i + ", " + what + ")", desk.doubt(i, what), slow.doubt(i, what));
                break;
            case 4:
                int minute = draw(2) == 0 ? near(4000) : near(20);
                same("foretold(" + mat + ", " + minute + ")", desk.foretold(mat, minute), slow.foretold(mat, minute));
                break;
            case 5:
                same("tight(" + mat + ")", desk.tight(mat), slow.tight(mat));
                break;
            case 6:
                same("state(" + what + ")", desk.state(what), slow.state(what));
                break;
            case 7:
                what = near(7);
                same("count(" + what + ")", desk.count(what), slow.count(what));
                break;
            default:
                askList(runner);
                break;
        }
    }

    private void askList(int runner) {
        if (slow.fault() >= 0 && draw(4) != 0) {
            String text = draw(2) == 0 ? "s<2;n;3" : draw(2) == 0 ? "y<60|t=1;g;2" : "(t>0|p<3)&(s=0|k>0);n;4";
            Check.write(desk, text);
            slow.text = text;
            calls.append("the TEXT ").append(text).append("; ");
        }
        int i = near(Math.max(1, slow.many()));
        int team = near(4);
        int n = near(4);
        same("many()", desk.many(), slow.many());
        same("list(" + i + ")", desk.list(i), slow.list(i));
        same("place(" + runner + ")", desk.place(runner), slow.place(runner));
        same("prizes()", desk.prizes(), slow.prizes());
        same("team(" + team + ", " + n + ")", desk.team(team, n), slow.team(team, n));
    }
}
