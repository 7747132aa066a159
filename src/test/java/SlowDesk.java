import java.util.ArrayDeque;
import java.util.ArrayList;
import java.util.Collections;
import java.util.HashMap;
import java.util.HashSet;
import java.util.List;
import java.util.Map;
import java.util.Set;
import java.util.TreeMap;
import java.util.TreeSet;

/**
 * The document once more, in other ways than RunDesk goes: by its definitions, with no thought of
 * speed or of what is made. The model test holds the two side by side.
 */
final class SlowDesk {
    static final int[] LEAST = {150, 150, 80, 300};
    static final int[] GREATEST = {900, 900, 900, 1500};

    private static final class Man {
        int[] facts;
        Map<Integer, Integer> seen = new HashMap<>();
        int torn = 99;
        boolean dropped;
        boolean waved;
    }

    List<int[]> mats = new ArrayList<>();
    Set<Integer> dead = new HashSet<>();
    Map<Integer, Integer> cuts = new HashMap<>();
    Map<Integer, Integer> guns = new HashMap<>();
    List<Man> men = new ArrayList<>();
    ArrayDeque<Integer> struck = new ArrayDeque<>();
    String text = "";
    private SlowDesk kept;

    SlowDesk() {
        mats.add(new int[] {0, 60});
        mats.add(new int[] {1000, 60});
    }

    private static boolean in(int value, int least, int most) {
        return least <= value && value <= most;
    }

    private boolean isMat(int mat) {
        return in(mat, 0, mats.size() - 1);
    }

    private boolean isMan(int runner) {
        return in(runner, 0, men.size() - 1);
    }

    private int metres(int from, int to) {
        return mats.get(to)[0] - mats.get(from)[0];
    }

    boolean way(int bears) {
        if (!in(bears, 1, 1000)) {
            return false;
        }
        mats.clear();
        mats.add(new int[] {0, bears});
        dead.clear();
        cuts.clear();
        guns.clear();
        men.clear();
        struck.clear();
        return true;
    }

    int mat(int place, int bears) {
        int last = mats.get(mats.size() - 1)[0];
        if (mats.size() == 12 || place <= last || place > 100000 || !in(bears, 1, 1000)) {
            return -1;
        }
        mats.add(new int[] {place, bears});
        return mats.size() - 1;
    }

    int runner(int... facts) {
        int[][] bounds = {{0, 3}, {60, 2000}, {0, 99}, {0, 1}, {0, 9}, {0, 5}};
        for (int i = 0; i < 6; i++) {
            if (!in(facts[i], bounds[i][0], bounds[i][1])) {
                return -1;
            }
        }
        if (men.size() == 60) {
            return -1;
        }
        Man man = new Man();
        man.facts = facts.clone();
        men.add(man);
        return men.size() - 1;
    }

    private static boolean put(Map<Integer, Integer> map, boolean is, int key, int tick) {
        if (!is || !in(tick, -1, 40000)) {
            return false;
        }
        map.remove(key);
        if (tick >= 0) {
            map.put(key, tick);
        }
        return true;
    }

    boolean gun(int pen, int tick) {
        return put(guns, in(pen, 0, 5), pen, tick);
    }

    boolean cut(int mat, int tick) {
        return put(cuts, isMat(mat), mat, tick);
    }

    int saw(int runner, int mat, int tick) {
        if (!isMan(runner) || !isMat(mat) || !in(tick, 0, 40000)) {
            return -1;
        }
        Man man = men.get(runner);
        if (dead.contains(mat) || mat >= man.torn) {
            return -1;
        }
        int before = man.seen.getOrDefault(mat, 40001);
        man.seen.put(mat, Math.min(before, tick));
        return tick < before ? 1 : 0;
    }

    boolean dead(int mat, boolean is) {
        if (isMat(mat)) {
            dead.remove(mat);
        }
        return isMat(mat) && (!is || dead.add(mat));
    }

    boolean tear(int runner, int mat) {
        if (!isMan(runner) || !isMat(mat)) {
            return false;
        }
        Man man = men.get(runner);
        man.torn = Math.min(man.torn, mat);
        man.seen.keySet().removeIf(other -> other >= mat);
        return true;
    }

    boolean drop(int runner, boolean is) {
        if (isMan(runner)) {
            men.get(runner).dropped = is;
        }
        return isMan(runner);
    }

    boolean wave(int runner, boolean is) {
        if (isMan(runner)) {
            men.get(runner).waved = is;
        }
        return isMan(runner);
    }

    boolean strike(int runner) {
        if (!isMan(runner) || struck.contains(runner)) {
            return false;
        }
        struck.push(runner);
        return true;
    }

    int pardon() {
        return struck.isEmpty() ? -1 : struck.pop();
    }

    private int gunOf(int runner) {
        return guns.getOrDefault(men.get(runner).facts[5], -1);
    }

    int split(int runner, int mat) {
        return isMan(runner) && isMat(mat) ? men.get(runner).seen.getOrDefault(mat, -1) : -1;
    }

    /** The ticks of all MATS that are SEEN. */
    private TreeMap<Integer, Integer> seen(int runner) {
        TreeMap<Integer, Integer> all = new TreeMap<>(men.get(runner).seen);
        if (!all.containsKey(0) && gunOf(runner) >= 0) {
            all.put(0, gunOf(runner));
        }
        return all;
    }

    private int stateOf(int runner) {
        Man man = men.get(runner);
        if (struck.contains(runner)) {
            return 4;
        }
        if (man.dropped) {
            return 3;
        }
        for (Map.Entry<Integer, Integer> cut : cuts.entrySet()) {
            if (!man.waved && man.seen.getOrDefault(cut.getKey(), -1) > cut.getValue()) {
                return 5;
            }
        }
        if (mats.size() > 1 && man.seen.containsKey(mats.size() - 1)) {
            return 2;
        }
        return seen(runner).containsKey(0) ? 1 : 0;
    }

    private int since(int runner, Integer tick) {
        if (tick == null || tick < 0 || stateOf(runner) != 2) {
            return -1;
        }
        return Math.max(-1, men.get(runner).seen.get(mats.size() - 1) - tick);
    }

    int told(int runner, int what) {
        if (!isMan(runner) || !in(what, 0, 13)) {
            return -1;
        }
        Man man = men.get(runner);
        TreeMap<Integer, Integer> seen = seen(runner);
        if (what < 6) {
            return man.facts[what];
        }
        int time = since(runner, seen.get(0));
        int[] rest = {
            stateOf(runner), seen.getOrDefault(0, -1), seen.isEmpty() ? -1 : seen.lastKey(), time,
            since(runner, gunOf(runner)), !seen.containsKey(0) ? -1 : man.seen.containsKey(0) ? 0 : 1,
            man.facts[0] != 1 || time < 0 ? -1
                : time - (int) Math.floor(man.facts[1] / 1000.0 * metres(0, mats.size() - 1) + 1e-7),
            man.torn == 99 ? -1 : man.torn
        };
        return rest[what - 6];
    }

    int guess(int runner, int mat, boolean greatest) {
        if (!isMan(runner) || !isMat(mat)) {
            return -1;
        }
        TreeMap<Integer, Integer> seen = seen(runner);
        if (seen.containsKey(mat)) {
            return seen.get(mat);
        }
        Integer a = seen.lowerKey(mat);
        Integer b = seen.higherKey(mat);
        if (a == null) {
            return -1;
        }
        int kind = men.get(runner).facts[0];
        long least = seen.get(a) + up(metres(a, mat), LEAST[kind]);
        long most = seen.get(a) + cutDown(metres(a, mat), GREATEST[kind]);
        if (b != null) {
            least = Math.max(least, seen.get(b) - cutDown(metres(mat, b), GREATEST[kind]));
            most = Math.min(most, seen.get(b) - up(metres(mat, b), LEAST[kind]));
        }
        return (int) Math.max(0, greatest ? most : least);
    }

    private static long up(long metres, long limit) {
        return metres * limit / 1000 + (metres * limit % 1000 == 0 ? 0 : 1);
    }

    private static long cutDown(long metres, long limit) {
        return Math.floorDiv(metres * limit, 1000L);
    }

    List<int[]> doubts() {
        List<int[]> all = new ArrayList<>();
        for (int runner = 0; runner < men.size(); runner++) {
            TreeMap<Integer, Integer> seen = seen(runner);
            for (int mat = 0; mat < mats.size(); mat++) {
                Integer a = seen.lowerKey(mat);
                boolean is = seen.containsKey(mat);
                if (!is && seen.higherKey(mat) != null) {
                    all.add(new int[] {runner, mat, 1});
                }
                if (is && a != null
                    && seen.get(mat) - seen.get(a) < up(metres(a, mat), LEAST[men.get(runner).facts[0]])) {
                    all.add(new int[] {runner, mat, 2});
                }
                if (!is && a != null && guess(runner, mat, false) > guess(runner, mat, true)) {
                    all.add(new int[] {runner, mat, 3});
                }
            }
        }
        return all;
    }

    int doubt(int i, int what) {
        return in(what, 0, 2) && in(i, 0, doubts().size() - 1) ? doubts().get(i)[what] : -1;
    }

    private Map<Long, Integer> passers(int mat) {
        Map<Long, Integer> all = new HashMap<>();
        for (int runner = 0; runner < men.size(); runner++) {
            if (gunOf(runner) >= 0) {
                long tick = gunOf(runner) + cutDown(mats.get(mat)[0], men.get(runner).facts[1]);
                all.merge(tick / 60, 1, Integer::sum);
            }
        }
        return all;
    }

    int foretold(int mat, int minute) {
        return isMat(mat) && minute >= 0 ? passers(mat).getOrDefault((long) minute, 0) : -1;
    }

    int tight(int mat) {
        if (!isMat(mat)) {
            return -1;
        }
        Map<Long, Integer> all = passers(mat);
        for (long minute : new TreeSet<>(all.keySet())) {
            if (all.get(minute) > mats.get(mat)[1]) {
                return (int) minute;
            }
        }
        return -1;
    }

    int plan(int tick, int most) {
        if (!in(tick, 0, 10000) || !in(most, 0, 3000)) {
            return -1;
        }
        Map<Integer, Integer> before = guns;
        for (int step = 0; step <= most; step++) {
            guns = new HashMap<>();
            for (int pen = 0; pen < 6; pen++) {
                guns.put(pen, tick + pen * step);
            }
            boolean tight = false;
            for (int mat = 0; mat < mats.size() && !tight; mat++) {
                tight = tight(mat) >= 0;
            }
            if (!tight) {
                return step;
            }
        }
        guns = before;
        return -1;
    }

    int feed(int bytes) {
        StringBuilder more = new StringBuilder(text);
        for (int shift = 24; shift >= 0; shift -= 8) {
            char one = (char) (bytes >> shift & 255);
            if (one > 0) {
                more.append(one);
            }
        }
        if (more.length() > 200) {
            return -1;
        }
        text = more.toString();
        return text.length();
    }

    boolean end(int n) {
        if (!in(n, 0, text.length())) {
            return false;
        }
        text = text.substring(0, n);
        return true;
    }

    int fault() {
        if (isText(text)) {
            return -1;
        }
        int n = 0;
        while (n < text.length() && canGoOn(text.substring(0, n + 1))) {
            n++;
        }
        return n;
    }

    /** Whether some TEXT begins so: one of these endings makes one, if any does. */
    static boolean canGoOn(String begun) {
        for (String rest : new String[] {"", "n", "0"}) {
            if (isText(begun + rest)) {
                return true;
            }
        }
        for (String rest : new String[] {"", "0", "=0", "s=0"}) {
            for (String close = ""; close.length() <= 8; close += ")") {
                if (isText(begun + rest + close + ";n")) {
                    return true;
                }
            }
        }
        return false;
    }

    static boolean isText(String text) {
        if (text.matches("(?s).*[0-9]{6}.*") || text.matches("(?s).*[0-9] +[0-9].*")) {
            return false;
        }
        String[] pieces = text.replace(" ", "").split(";", -1);
        if (pieces.length < 2 || pieces.length > 3 || !pieces[1].matches("[ng]")) {
            return false;
        }
        if (pieces.length == 3 && !pieces[2].matches("[0-9]+")) {
            return false;
        }
        int open = 0;
        for (char c : pieces[0].toCharArray()) {
            open += c == '(' ? 1 : c == ')' ? -1 : 0;
            if (open > 8) {
                return false;
            }
        }
        if (pieces[0].indexOf('U') >= 0) {
            return false;
        }
        String tests = pieces[0].replaceAll("[sytpk][=<>][0-9]+", "U");
        String before;
        do {
            before = tests;
            tests = tests.replaceAll("\\(U([&|]U)*\\)", "U");
        } while (!tests.equals(before));
        return tests.matches("U([&|]U)*");
    }

    private boolean holds(String tests, int[] facts) {
        for (char joint : new char[] {'|', '&'}) {
            int open = 0;
            for (int i = 0; i < tests.length(); i++) {
                open += tests.charAt(i) == '(' ? 1 : tests.charAt(i) == ')' ? -1 : 0;
                if (open == 0 && tests.charAt(i) == joint) {
                    boolean one = holds(tests.substring(0, i), facts);
                    boolean two = holds(tests.substring(i + 1), facts);
                    return joint == '|' ? one || two : one && two;
                }
            }
        }
        if (tests.charAt(0) == '(') {
            return holds(tests.substring(1, tests.length() - 1), facts);
        }
        int fact = facts["k.ystp".indexOf(tests.charAt(0))];
        int number = Integer.parseInt(tests.substring(2));
        char sign = tests.charAt(1);
        return sign == '=' ? fact == number : sign == '<' ? fact < number : fact > number;
    }

    /** Time and number of those in the LIST, in its order; null with a FAULT. */
    private List<int[]> listed() {
        if (fault() >= 0) {
            return null;
        }
        String[] pieces = text.replace(" ", "").split(";");
        List<int[]> all = new ArrayList<>();
        for (int runner = 0; runner < men.size(); runner++) {
            int time = told(runner, pieces[1].equals("n") ? 9 : 10);
            if (time >= 0 && holds(pieces[0], men.get(runner).facts)) {
                all.add(new int[] {time, runner});
            }
        }
        Collections.sort(all, (a, b) -> a[0] != b[0] ? a[0] - b[0] : a[1] - b[1]);
        return all;
    }

    int list(int i) {
        List<int[]> all = listed();
        return all == null || !in(i, 0, all.size() - 1) ? -1 : all.get(i)[1];
    }

    int place(int runner) {
        List<int[]> all = listed();
        for (int i = 0; all != null && i < all.size(); i++) {
            if (all.get(i)[1] == runner) {
                int first = i;
                while (first > 0 && all.get(first - 1)[0] == all.get(i)[0]) {
                    first--;
                }
                return first + 1;
            }
        }
        return -1;
    }

    int many() {
        List<int[]> all = listed();
        return all == null ? -1 : all.size();
    }

    int prizes() {
        List<int[]> all = listed();
        if (all == null) {
            return -1;
        }
        String[] pieces = text.replace(" ", "").split(";");
        int number = pieces.length < 3 ? 0 : Integer.parseInt(pieces[2]);
        int winners = 0;
        for (int[] one : all) {
            winners += place(one[1]) <= number ? 1 : 0;
        }
        return winners;
    }

    int team(int team, int n) {
        List<int[]> all = listed();
        if (all == null || !in(team, 1, 9) || !in(n, 1, 10)) {
            return -1;
        }
        all.removeIf(one -> men.get(one[1]).facts[4] != team);
        int sum = 0;
        for (int i = 0; i < n && i < all.size(); i++) {
            sum += all.get(i)[0];
        }
        return all.size() < n ? -1 : sum;
    }

    int state(int state) {
        int many = 0;
        for (int runner = 0; runner < men.size(); runner++) {
            many += stateOf(runner) == state ? 1 : 0;
        }
        return many;
    }

    int count(int what) {
        int splits = 0;
        for (Man man : men) {
            splits += man.seen.size();
        }
        int last = mats.size() < 2 ? -1 : mats.get(mats.size() - 1)[0];
        int[] all = {mats.size(), men.size(), doubts().size(), text.length(), struck.size(), splits, last};
        return in(what, 0, 6) ? all[what] : -1;
    }

    void image() {
        kept = new SlowDesk();
        copy(this, kept);
    }

    boolean back() {
        if (kept != null) {
            copy(kept, this);
        }
        return kept != null;
    }

    private static void copy(SlowDesk from, SlowDesk to) {
        to.mats = new ArrayList<>(from.mats);
        to.dead = new HashSet<>(from.dead);
        to.cuts = new HashMap<>(from.cuts);
        to.guns = new HashMap<>(from.guns);
        to.struck = new ArrayDeque<>(from.struck);
        to.men = new ArrayList<>();
        for (Man man : from.men) {
            Man other = new Man();
            other.facts = man.facts.clone();
            other.seen = new HashMap<>(man.seen);
            other.torn = man.torn;
            other.dropped = man.dropped;
            other.waved = man.waved;
            to.men.add(other);
        }
    }
}
