import java.util.Arrays;
import java.util.NoSuchElementException;

/**
 * The desk of a town's great run. The document that it follows is ../shared/DOC.md.
 *
 * <p>A Race holds all that image() keeps; the other parts read it and hold rows of their own that
 * are made once and used again, so that no call makes an object.
 */
public final class RunDesk {
    public static final int NONE = -1;

    private static final int MOST_MATS = 12;
    private static final int MOST_PLACE = 100000;
    private static final int MOST_BEARING = 1000;
    private static final int MOST_TICK = 40000;
    private static final int MOST_RUNNERS = 60;
    private static final int PENS = 6;
    private static final int MOST_BYTES = 200;

    private static final int FACTS = 6;
    private static final int KIND = 0;
    private static final int PACE = 1;
    private static final int YEAR = 2;
    private static final int SEX = 3;
    private static final int TEAM = 4;
    private static final int PEN = 5;

    private static final int PACED = 1;
    private static final int CHAIR = 2;
    private static final int WALKER = 3;

    private static final int UNSTARTED = 0;
    private static final int UNDERWAY = 1;
    private static final int IN = 2;
    private static final int DROPPED = 3;
    private static final int STRUCK = 4;
    private static final int OUT = 5;

    private final Race race;
    private final Race kept;
    private final Trail trail;
    private final Doubts doubts;
    private final Foretelling foretelling;
    private final Text text;
    private final Listing listing;
    private boolean isKept;

    public RunDesk() {
        race = new Race();
        kept = new Race();
        trail = new Trail();
        doubts = new Doubts();
        foretelling = new Foretelling();
        text = new Text();
        listing = new Listing();
        race.begin(60);
        race.way.append(1000, 60);
    }

    public boolean way(int bears) {
        if (!within(bears, 1, MOST_BEARING)) {
            return false;
        }
        race.begin(bears);
        return true;
    }

    public int mat(int place, int bears) {
        if (!within(bears, 1, MOST_BEARING) || !within(place, race.way.farthest() + 1, MOST_PLACE)) {
            return NONE;
        }
        return race.way.append(place, bears);
    }

    public int runner(int kind, int pace, int year, int sex, int team, int pen) {
        if (!within(kind, 0, WALKER) || !within(pace, 60, 2000) || !within(year, 0, 99)) {
            return NONE;
        }
        if (!within(sex, 0, 1) || !within(team, 0, 9) || !within(pen, 0, PENS - 1)) {
            return NONE;
        }
        return race.runners.enter(kind, pace, year, sex, team, pen);
    }

    public boolean gun(int pen, int tick) {
        return isTickOrNone(tick) && race.guns.fire(pen, tick);
    }

    public int saw(int runner, int mat, int tick) {
        if (!race.hasCell(runner, mat) || !within(tick, 0, MOST_TICK)) {
            return NONE;
        }
        if (race.way.isDead(mat) || race.runners.isTorn(runner, mat)) {
            return NONE;
        }
        return race.runners.enterSplit(runner, mat, tick) ? 1 : 0;
    }

    public boolean dead(int mat, boolean is) {
        return race.way.setDead(mat, is);
    }

    public boolean tear(int runner, int mat) {
        return race.way.has(mat) && race.runners.tearFrom(runner, mat);
    }

    public boolean drop(int runner, boolean is) {
        return race.runners.setDropped(runner, is);
    }

    public boolean cut(int mat, int tick) {
        return isTickOrNone(tick) && race.way.setCut(mat, tick);
    }

    public boolean wave(int runner, boolean is) {
        return race.runners.setWaved(runner, is);
    }

    public boolean strike(int runner) {
        return race.runners.strikeOff(runner);
    }

    public int pardon() {
        return race.runners.takeStrikingBack();
    }

    public int told(int runner, int what) {
        return race.tell(runner, what);
    }

    public int split(int runner, int mat) {
        return race.hasCell(runner, mat) ? race.runners.splitAt(runner, mat) : NONE;
    }

    public int guess(int runner, int mat, boolean greatest) {
        if (!race.hasCell(runner, mat)) {
            return NONE;
        }
        trail.follow(race, runner);
        return greatest ? trail.greatestGuess(mat) : trail.leastGuess(mat);
    }

    public int doubt(int i, int what) {
        doubts.gather(race, trail);
        return doubts.tell(i, what);
    }

    public int foretold(int mat, int minute) {
        return race.way.has(mat) && minute >= 0 ? foretelling.passersIn(race, mat, minute) : NONE;
    }

    public int tight(int mat) {
        return race.way.has(mat) ? foretelling.firstTightMinute(race, mat) : NONE;
    }

    public int plan(int tick, int most) {
        if (!within(tick, 0, 10000) || !within(most, 0, 3000)) {
            return NONE;
        }
        return foretelling.planFrom(race, tick, most);
    }

    public int feed(int bytes) {
        return text.append(bytes);
    }

    public boolean end(int n) {
        return text.shorten(n);
    }

    public int fault() {
        return listing.faultOf(text);
    }

    public int list(int i) {
        return listing.gather(text, race) ? listing.runnerAt(i) : NONE;
    }

    public int place(int runner) {
        return listing.gather(text, race) ? listing.placeOf(runner) : NONE;
    }

    public int many() {
        return listing.gather(text, race) ? listing.size() : NONE;
    }

    public int prizes() {
        return listing.gather(text, race) ? listing.prizeWinners() : NONE;
    }

    public int team(int team, int n) {
        if (!within(team, 1, 9) || !within(n, 1, 10)) {
            return NONE;
        }
        return listing.gather(text, race) ? listing.bestOfTeam(race, team, n) : NONE;
    }

    public int state(int state) {
        return race.howManyAre(state);
    }

    public int count(int what) {
        switch (what) {
            case 0:
                return race.way.size();
            case 1:
                return race.runners.size();
            case 2:
                return doubts.gather(race, trail);
            case 3:
                return text.size();
            case 4:
                return race.runners.strikings();
            case 5:
                return race.howManySplits();
            case 6:
                return race.way.placeAt(race.way.lastMat());
            default:
                return NONE;
        }
    }

    public void image() {
        kept.copyFrom(race);
        isKept = true;
    }

    public void back() throws NoSuchElementException {
        if (!isKept) {
            throw new NoSuchElementException("nothing is kept");
        }
        race.copyFrom(kept);
    }

    private static boolean within(int value, int least, int most) {
        return value >= least && value <= most;
    }

    private static boolean isTickOrNone(int tick) {
        return tick == NONE || within(tick, 0, MOST_TICK);
    }

    /** What seconds for 1,000 metres make of so many metres, cut. */
    private static int secondsCut(int metres, int secondsByKilometre) {
        return metres * secondsByKilometre / 1000;
    }

    private static int secondsUp(int metres, int secondsByKilometre) {
        return (metres * secondsByKilometre + 999) / 1000;
    }

    /** The least LIMIT of a KIND. */
    private static int leastLimit(int kind) {
        switch (kind) {
            case CHAIR:
                return 80;
            case WALKER:
                return 300;
            default:
                return 150;
        }
    }

    /** The greatest LIMIT of a KIND. */
    private static int greatestLimit(int kind) {
        return kind == WALKER ? 1500 : 900;
    }

    /** The MATS, in the order in which they stand. */
    private static final class Way {
        private final int[] places = new int[MOST_MATS];
        private final int[] bearings = new int[MOST_MATS];
        private final int[] cuts = new int[MOST_MATS];
        private final boolean[] deaths = new boolean[MOST_MATS];
        private int mats;

        void clear() {
            mats = 0;
        }

        int append(int place, int bears) {
            if (mats < 0 || mats >= MOST_MATS) {
                return NONE;
            }
            places[mats] = place;
            bearings[mats] = bears;
            cuts[mats] = NONE;
            deaths[mats] = false;
            mats++;
            return mats - 1;
        }

        int size() {
            return mats;
        }

        boolean has(int mat) {
            return mat >= 0 && mat < mats && mat < MOST_MATS;
        }

        /** NONE with one MAT alone: then there is no last MAT. */
        int lastMat() {
            return mats < 2 ? NONE : mats - 1;
        }

        /** The PLACE beyond which the next MAT must stand. */
        int farthest() {
            return placeAt(mats - 1);
        }

        int placeAt(int mat) {
            return has(mat) ? places[mat] : NONE;
        }

        int bearingAt(int mat) {
            return has(mat) ? bearings[mat] : NONE;
        }

        int cutAt(int mat) {
            return has(mat) ? cuts[mat] : NONE;
        }

        boolean setCut(int mat, int tick) {
            if (!has(mat)) {
                return false;
            }
            cuts[mat] = tick;
            return true;
        }

        boolean isDead(int mat) {
            return has(mat) && deaths[mat];
        }

        boolean setDead(int mat, boolean is) {
            if (!has(mat)) {
                return false;
            }
            deaths[mat] = is;
            return true;
        }

        void copyFrom(Way other) {
            System.arraycopy(other.places, 0, places, 0, MOST_MATS);
            System.arraycopy(other.bearings, 0, bearings, 0, MOST_MATS);
            System.arraycopy(other.cuts, 0, cuts, 0, MOST_MATS);
            for (int mat = 0; mat < MOST_MATS; mat++) {
                deaths[mat] = other.deaths[mat];
            }
            mats = other.mats;
        }
    }

    /** The GUNS of the PENS. */
    private static final class Guns {
        private final int[] ticks = new int[PENS];

        void clear() {
            Arrays.fill(ticks, NONE);
        }

        boolean fire(int pen, int tick) {
            if (!within(pen, 0, PENS - 1)) {
                return false;
            }
            ticks[pen] = tick;
            return true;
        }

        void fireInSteps(int tick, int step) {
            for (int pen = 0; pen < PENS; pen++) {
                ticks[pen] = tick + pen * step;
            }
        }

        int tickOf(int pen) {
            return pen >= 0 && pen < PENS ? ticks[pen] : NONE;
        }

        void copyFrom(Guns other) {
            System.arraycopy(other.ticks, 0, ticks, 0, PENS);
        }
    }

    /** What is known of each RUNNER. A row of SPLITS holds NONE for each MAT that is not there. */
    private static final class Runners {
        private final int[] facts = new int[MOST_RUNNERS * FACTS];
        private final int[] splits = new int[MOST_RUNNERS * MOST_MATS];
        private final int[] torn = new int[MOST_RUNNERS];
        private final boolean[] dropped = new boolean[MOST_RUNNERS];
        private final boolean[] waved = new boolean[MOST_RUNNERS];
        private final boolean[] struck = new boolean[MOST_RUNNERS];
        private final int[] strikingOrder = new int[MOST_RUNNERS];
        private int entered;
        private int strikings;

        void clear() {
            entered = 0;
            strikings = 0;
        }

        int enter(int kind, int pace, int year, int sex, int team, int pen) {
            if (entered < 0 || entered >= MOST_RUNNERS) {
                return NONE;
            }
            int runner = entered;
            entered++;
            facts[runner * FACTS + KIND] = kind;
            facts[runner * FACTS + PACE] = pace;
            facts[runner * FACTS + YEAR] = year;
            facts[runner * FACTS + SEX] = sex;
            facts[runner * FACTS + TEAM] = team;
            facts[runner * FACTS + PEN] = pen;
            for (int mat = 0; mat < MOST_MATS; mat++) {
                splits[runner * MOST_MATS + mat] = NONE;
            }
            torn[runner] = NONE;
            dropped[runner] = false;
            waved[runner] = false;
            struck[runner] = false;
            return runner;
        }

        int size() {
            return entered;
        }

        boolean has(int runner) {
            return runner >= 0 && runner < entered && runner < MOST_RUNNERS;
        }

        int factOf(int runner, int fact) {
            // has() is not asked here: calls would go eight deep
            if (runner < 0 || runner >= entered || runner >= MOST_RUNNERS || fact < 0 || fact >= FACTS) {
                return NONE;
            }
            return facts[runner * FACTS + fact];
        }

        int splitAt(int runner, int mat) {
            if (!has(runner) || mat < 0 || mat >= MOST_MATS) {
                return NONE;
            }
            return splits[runner * MOST_MATS + mat];
        }

        /** Whether the tick is the SPLIT now: the least one stays. */
        boolean enterSplit(int runner, int mat, int tick) {
            if (!has(runner) || mat < 0 || mat >= MOST_MATS) {
                return false;
            }
            int before = splits[runner * MOST_MATS + mat];
            if (before != NONE && before <= tick) {
                return false;
            }
            splits[runner * MOST_MATS + mat] = tick;
            return true;
        }

        int tornFrom(int runner) {
            return has(runner) ? torn[runner] : NONE;
        }

        boolean isTorn(int runner, int mat) {
            int from = tornFrom(runner);
            return from != NONE && mat >= from;
        }

        boolean tearFrom(int runner, int mat) {
            if (!has(runner) || !within(mat, 0, MOST_MATS - 1)) {
                return false;
            }
            if (!isTorn(runner, mat)) {
                torn[runner] = mat;
            }
            for (int gone = mat; gone < MOST_MATS; gone++) {
                splits[runner * MOST_MATS + gone] = NONE;
            }
            return true;
        }

        boolean isDropped(int runner) {
            return has(runner) && dropped[runner];
        }

        boolean setDropped(int runner, boolean is) {
            if (!has(runner)) {
                return false;
            }
            dropped[runner] = is;
            return true;
        }

        boolean isWaved(int runner) {
            return has(runner) && waved[runner];
        }

        boolean setWaved(int runner, boolean is) {
            if (!has(runner)) {
                return false;
            }
            waved[runner] = is;
            return true;
        }

        boolean isStruck(int runner) {
            return has(runner) && struck[runner];
        }

        boolean strikeOff(int runner) {
            if (!has(runner) || struck[runner] || !within(strikings, 0, MOST_RUNNERS - 1)) {
                return false;
            }
            struck[runner] = true;
            strikingOrder[strikings] = runner;
            strikings++;
            return true;
        }

        int takeStrikingBack() {
            if (!within(strikings, 1, MOST_RUNNERS)) {
                return NONE;
            }
            int runner = strikingOrder[strikings - 1];
            if (!has(runner)) {
                return NONE;
            }
            strikings--;
            struck[runner] = false;
            return runner;
        }

        int strikings() {
            return strikings;
        }

        void copyFrom(Runners other) {
            System.arraycopy(other.facts, 0, facts, 0, MOST_RUNNERS * FACTS);
            System.arraycopy(other.splits, 0, splits, 0, MOST_RUNNERS * MOST_MATS);
            System.arraycopy(other.torn, 0, torn, 0, MOST_RUNNERS);
            System.arraycopy(other.strikingOrder, 0, strikingOrder, 0, MOST_RUNNERS);
            for (int runner = 0; runner < MOST_RUNNERS; runner++) {
                dropped[runner] = other.dropped[runner];
                waved[runner] = other.waved[runner];
                struck[runner] = other.struck[runner];
            }
            entered = other.entered;
            strikings = other.strikings;
        }
    }

    /** All but the TEXT, and what follows from it for one RUNNER. */
    private static final class Race {
        private final Way way = new Way();
        private final Guns guns = new Guns();
        private final Runners runners = new Runners();

        void begin(int bears) {
            way.clear();
            guns.clear();
            runners.clear();
            way.append(0, bears);
        }

        void copyFrom(Race other) {
            way.copyFrom(other.way);
            guns.copyFrom(other.guns);
            runners.copyFrom(other.runners);
        }

        boolean hasCell(int runner, int mat) {
            return runners.has(runner) && way.has(mat);
        }

        int tell(int runner, int what) {
            if (within(what, 0, FACTS - 1)) {
                return runners.factOf(runner, what);
            }
            switch (what) {
                case 6:
                    return runners.has(runner) ? stateOf(runner) : NONE;
                case 7:
                    return startOf(runner);
                case 8:
                    return latestOf(runner);
                case 9:
                    return timeSince(runner, startOf(runner));
                case 10:
                    return timeSince(runner, gunOf(runner));
                case 11:
                    return startIsGunsOf(runner);
                case 12:
                    return overPace(runner, timeSince(runner, startOf(runner)));
                case 13:
                    return runners.tornFrom(runner);
                default:
                    return NONE;
            }
        }

        int gunOf(int runner) {
            return guns.tickOf(runners.factOf(runner, PEN));
        }

        int startOf(int runner) {
            int split = runners.splitAt(runner, 0);
            return split != NONE ? split : gunOf(runner);
        }

        private int startIsGunsOf(int runner) {
            if (startOf(runner) == NONE) {
                return NONE;
            }
            return runners.splitAt(runner, 0) == NONE ? 1 : 0;
        }

        private int latestOf(int runner) {
            for (int mat = way.size() - 1; mat > 0; mat--) {
                if (runners.splitAt(runner, mat) != NONE) {
                    return mat;
                }
            }
            return startOf(runner) != NONE ? 0 : NONE;
        }

        int stateOf(int runner) {
            if (runners.isStruck(runner)) {
                return STRUCK;
            }
            if (runners.isDropped(runner)) {
                return DROPPED;
            }
            if (isOut(runner)) {
                return OUT;
            }
            if (runners.splitAt(runner, way.lastMat()) != NONE) {
                return IN;
            }
            return startOf(runner) != NONE ? UNDERWAY : UNSTARTED;
        }

        private boolean isOut(int runner) {
            if (runners.isWaved(runner)) {
                return false;
            }
            for (int mat = 0; mat < way.size(); mat++) {
                int tick = way.cutAt(mat);
                if (tick != NONE && runners.splitAt(runner, mat) > tick) {
                    return true;
                }
            }
            return false;
        }

        int howManyAre(int state) {
            int many = 0;
            for (int runner = 0; runner < runners.size(); runner++) {
                if (stateOf(runner) == state) {
                    many++;
                }
            }
            return many;
        }

        int howManySplits() {
            int many = 0;
            for (int runner = 0; runner < runners.size(); runner++) {
                for (int mat = 0; mat < way.size(); mat++) {
                    if (runners.splitAt(runner, mat) != NONE) {
                        many++;
                    }
                }
            }
            return many;
        }

        /** TIME, if the tick is the START; GUN TIME, if it is the GUN. */
        int timeSince(int runner, int tick) {
            if (tick == NONE || stateOf(runner) != IN) {
                return NONE;
            }
            int time = runners.splitAt(runner, way.lastMat()) - tick;
            return time < 0 ? NONE : time;
        }

        private int overPace(int runner, int time) {
            if (time == NONE || runners.factOf(runner, KIND) != PACED) {
                return NONE;
            }
            return time - secondsCut(way.placeAt(way.lastMat()), runners.factOf(runner, PACE));
        }
    }

    /** Where one RUNNER was SEEN, and what can be run between. */
    private static final class Trail {
        private final int[] ticks = new int[MOST_MATS];
        private final int[] places = new int[MOST_MATS];
        private int mats;
        private int least;
        private int greatest;

        void follow(Race race, int runner) {
            int kind = race.runners.factOf(runner, KIND);
            least = leastLimit(kind);
            greatest = greatestLimit(kind);
            mats = race.way.size();
            for (int mat = 0; mat < mats && mat < MOST_MATS; mat++) {
                ticks[mat] = mat == 0 ? race.startOf(runner) : race.runners.splitAt(runner, mat);
                places[mat] = race.way.placeAt(mat);
            }
        }

        private int tickAt(int mat) {
            return mat >= 0 && mat < mats && mat < MOST_MATS ? ticks[mat] : NONE;
        }

        private int placeAt(int mat) {
            return mat >= 0 && mat < mats && mat < MOST_MATS ? places[mat] : NONE;
        }

        boolean isSeen(int mat) {
            return tickAt(mat) != NONE;
        }

        /** The nearest SEEN MAT with a lower number. */
        private int seenAhead(int mat) {
            for (int ahead = mat - 1; ahead >= 0; ahead--) {
                if (isSeen(ahead)) {
                    return ahead;
                }
            }
            return NONE;
        }

        /** The nearest SEEN MAT with a higher number. */
        int seenBehind(int mat) {
            for (int behind = mat + 1; behind < mats; behind++) {
                if (isSeen(behind)) {
                    return behind;
                }
            }
            return NONE;
        }

        private int quickest(int from, int to) {
            return secondsUp(placeAt(to) - placeAt(from), least);
        }

        private int slowest(int from, int to) {
            return secondsCut(placeAt(to) - placeAt(from), greatest);
        }

        boolean isTooQuick(int mat) {
            int ahead = seenAhead(mat);
            if (ahead == NONE || !isSeen(mat)) {
                return false;
            }
            return tickAt(mat) - tickAt(ahead) < quickest(ahead, mat);
        }

        int leastGuess(int mat) {
            int ahead = seenAhead(mat);
            if (isSeen(mat) || ahead == NONE) {
                return tickAt(mat);
            }
            int guess = tickAt(ahead) + quickest(ahead, mat);
            int behind = seenBehind(mat);
            if (behind != NONE) {
                guess = Math.max(guess, tickAt(behind) - slowest(mat, behind));
            }
            return Math.max(guess, 0);
        }

        int greatestGuess(int mat) {
            int ahead = seenAhead(mat);
            if (isSeen(mat) || ahead == NONE) {
                return tickAt(mat);
            }
            int guess = tickAt(ahead) + slowest(ahead, mat);
            int behind = seenBehind(mat);
            if (behind != NONE) {
                guess = Math.min(guess, tickAt(behind) - quickest(mat, behind));
            }
            return Math.max(guess, 0);
        }
    }

    /** The DOUBTS in their order, each as one number of RUNNER, MAT and sort. */
    private static final class Doubts {
        private static final int SORTS = 3;
        private static final int MISSED = 1;
        private static final int TOO_QUICK = 2;
        private static final int SHUT_OUT = 3;

        private final int[] codes = new int[MOST_RUNNERS * MOST_MATS * SORTS];
        private int doubts;

        /** Answers how many there are. */
        int gather(Race race, Trail trail) {
            doubts = 0;
            for (int runner = 0; runner < race.runners.size(); runner++) {
                trail.follow(race, runner);
                for (int mat = 0; mat < race.way.size(); mat++) {
                    gatherAt(trail, runner, mat);
                }
            }
            return doubts;
        }

        private void gatherAt(Trail trail, int runner, int mat) {
            boolean isSeen = trail.isSeen(mat);
            if (!isSeen && trail.seenBehind(mat) != NONE) {
                add(runner, mat, MISSED);
            }
            if (trail.isTooQuick(mat)) {
                add(runner, mat, TOO_QUICK);
            }
            // without a GUESS both are NONE, and so none is above the other
            if (!isSeen && trail.leastGuess(mat) > trail.greatestGuess(mat)) {
                add(runner, mat, SHUT_OUT);
            }
        }

        private void add(int runner, int mat, int sort) {
            if (doubts >= 0 && doubts < codes.length) {
                codes[doubts] = (runner * MOST_MATS + mat) * SORTS + sort - 1;
                doubts++;
            }
        }

        int tell(int i, int what) {
            if (i < 0 || i >= doubts || i >= codes.length) {
                return NONE;
            }
            int code = codes[i];
            switch (what) {
                case 0:
                    return code / SORTS / MOST_MATS;
                case 1:
                    return code / SORTS % MOST_MATS;
                case 2:
                    return code % SORTS + 1;
                default:
                    return NONE;
            }
        }
    }

    /** When RUNNERS are foretold to pass a MAT, by GUNS that stand or that are tried. */
    private static final class Foretelling {
        // the last GUN, and the slowest PACE over the longest WAY: 40,000 and 200,000 seconds
        private static final int MINUTES = 240000 / 60 + 1;

        /** The seconds from the GUN to a MAT: a plan tries thousands of GUNS with the same ones. */
        private final int[] seconds = new int[MOST_RUNNERS * MOST_MATS];
        private final int[] pens = new int[MOST_RUNNERS];
        private final int[] minutes = new int[MOST_RUNNERS];
        /** How many pass in each minute; all 0 between calls. */
        private final int[] passers = new int[MINUTES];
        private final Guns tried = new Guns();

        int passersIn(Race race, int mat, int minute) {
            int place = race.way.placeAt(mat);
            int many = 0;
            for (int runner = 0; runner < race.runners.size(); runner++) {
                int gun = race.gunOf(runner);
                int pace = race.runners.factOf(runner, PACE);
                if (gun != NONE && (gun + secondsCut(place, pace)) / 60 == minute) {
                    many++;
                }
            }
            return many;
        }

        /** The first minute in which a MAT is TIGHT; NONE: in none. */
        int firstTightMinute(Race race, int mat) {
            prepare(race, mat);
            return firstTight(race, race.guns, mat);
        }

        private void prepare(Race race, int mat) {
            int place = race.way.placeAt(mat);
            for (int runner = 0; runner < race.runners.size() && runner < MOST_RUNNERS; runner++) {
                pens[runner] = race.runners.factOf(runner, PEN);
                if (mat >= 0 && mat < MOST_MATS) {
                    int pace = race.runners.factOf(runner, PACE);
                    seconds[runner * MOST_MATS + mat] = secondsCut(place, pace);
                }
            }
        }

        /** As firstTightMinute, of a MAT that is prepared. */
        private int firstTight(Race race, Guns guns, int mat) {
            int bearing = race.way.bearingAt(mat);
            int runners = race.runners.size();
            if (mat < 0 || mat >= MOST_MATS || runners <= bearing) {
                return NONE;
            }
            int first = NONE;
            for (int runner = 0; runner < runners && runner < MOST_RUNNERS; runner++) {
                int gun = guns.tickOf(pens[runner]);
                int minute = gun == NONE ? NONE : (gun + seconds[runner * MOST_MATS + mat]) / 60;
                minutes[runner] = minute;
                if (minute >= 0 && minute < MINUTES) {
                    passers[minute]++;
                    boolean isTight = passers[minute] > bearing;
                    first = isTight && (first == NONE || minute < first) ? minute : first;
                }
            }
            forgetPassers(runners);
            return first;
        }

        private void forgetPassers(int runners) {
            for (int runner = 0; runner < runners && runner < MOST_RUNNERS; runner++) {
                int minute = minutes[runner];
                if (minute >= 0 && minute < MINUTES) {
                    passers[minute] = 0;
                }
            }
        }

        /** The least step that leaves no MAT TIGHT, whose GUNS then stand; NONE, and they stay. */
        int planFrom(Race race, int tick, int most) {
            for (int mat = 0; mat < race.way.size(); mat++) {
                prepare(race, mat);
            }
            int tightMat = 0;
            for (int step = 0; step <= most; step++) {
                tried.fireInSteps(tick, step);
                tightMat = someTightMat(race, tightMat);
                if (tightMat == NONE) {
                    race.guns.copyFrom(tried);
                    return step;
                }
            }
            return NONE;
        }

        /** A MAT that the tried GUNS make TIGHT, sought first where the step before had one. */
        private int someTightMat(Race race, int before) {
            if (firstTight(race, tried, before) != NONE) {
                return before;
            }
            for (int mat = 0; mat < race.way.size(); mat++) {
                if (firstTight(race, tried, mat) != NONE) {
                    return mat;
                }
            }
            return NONE;
        }
    }

    /** The bytes of the TEXT. */
    private static final class Text {
        private final int[] bytes = new int[MOST_BYTES];
        private int length;

        int size() {
            return length;
        }

        int byteAt(int i) {
            return i >= 0 && i < length && i < MOST_BYTES ? bytes[i] : NONE;
        }

        int append(int four) {
            if (length + howManyStand(four) > MOST_BYTES) {
                return NONE;
            }
            for (int shift = 24; shift >= 0; shift -= 8) {
                int one = four >>> shift & 255;
                if (one != 0 && length >= 0 && length < MOST_BYTES) {
                    bytes[length] = one;
                    length++;
                }
            }
            return length;
        }

        private static int howManyStand(int four) {
            int many = 0;
            for (int shift = 24; shift >= 0; shift -= 8) {
                if ((four >>> shift & 255) != 0) {
                    many++;
                }
            }
            return many;
        }

        boolean shorten(int n) {
            if (!within(n, 0, length)) {
                return false;
            }
            length = n;
            return true;
        }
    }

    /**
     * What the TEXT says. It is read byte by byte from stage to stage; the TESTS are laid down as
     * parts: a bracket, a |, or a unit (its word, with sign and number). A & needs none, since units
     * that follow one another are joined by it.
     */
    private static final class Reading {
        private static final int AT_UNIT = 0;
        private static final int AT_SIGN = 1;
        private static final int AT_NUMBER = 2;
        private static final int IN_NUMBER = 3;
        private static final int AFTER_UNIT = 4;
        private static final int AT_ORDER = 5;
        private static final int AFTER_ORDER = 6;
        private static final int AT_PRIZES = 7;
        private static final int IN_PRIZES = 8;
        private static final int AFTER_PRIZES = 9;

        private static final int MOST_DIGITS = 5;
        private static final int MOST_OPEN = 8;

        private final int[] parts = new int[MOST_BYTES];
        private final int[] signs = new int[MOST_BYTES];
        private final int[] numbers = new int[MOST_BYTES];
        private int laid;
        private int stage;
        private int open;
        private int digits;
        private int order;
        private int prizes;

        /** Reads the TEXT anew and answers its FAULT. */
        int read(Text text) {
            laid = 0;
            stage = AT_UNIT;
            open = 0;
            digits = 0;
            order = NONE;
            prizes = 0;
            for (int i = 0; i < text.size(); i++) {
                if (!take(text.byteAt(i))) {
                    return i;
                }
            }
            boolean isWhole = stage == AFTER_ORDER || stage == IN_PRIZES || stage == AFTER_PRIZES;
            return isWhole ? NONE : text.size();
        }

        boolean ordersByGunTime() {
            return order == 'g';
        }

        int prizeNumber() {
            return prizes;
        }

        /** False: the TEXT cannot go on with this byte. */
        private boolean take(int sign) {
            if (sign == ' ') {
                endNumber();
                return true;
            }
            switch (stage) {
                case AT_UNIT:
                    return takeUnit(sign);
                case AT_SIGN:
                    return takeSign(sign);
                case AT_NUMBER:
                    return takeDigit(sign);
                case IN_NUMBER:
                    return isDigit(sign) ? takeDigit(sign) : takeJoint(sign);
                case AFTER_UNIT:
                    return takeJoint(sign);
                case AT_ORDER:
                    return takeOrder(sign);
                case AFTER_ORDER:
                    stage = AT_PRIZES;
                    return sign == ';';
                case AT_PRIZES:
                case IN_PRIZES:
                    return takePrizeDigit(sign);
                default:
                    return false;
            }
        }

        private void endNumber() {
            if (stage == IN_NUMBER) {
                stage = AFTER_UNIT;
            } else if (stage == IN_PRIZES) {
                stage = AFTER_PRIZES;
            }
        }

        private boolean takeUnit(int sign) {
            if (sign == '(') {
                open++;
                lay(sign);
                return open <= MOST_OPEN;
            }
            stage = AT_SIGN;
            lay(sign);
            return factNamed(sign) != NONE;
        }

        private boolean takeSign(int sign) {
            stage = AT_NUMBER;
            digits = 0;
            if (within(laid, 1, MOST_BYTES)) {
                signs[laid - 1] = sign;
            }
            return sign == '=' || sign == '<' || sign == '>';
        }

        private boolean takeDigit(int sign) {
            stage = IN_NUMBER;
            digits++;
            if (!isDigit(sign) || digits > MOST_DIGITS) {
                return false;
            }
            if (within(laid, 1, MOST_BYTES)) {
                numbers[laid - 1] = numbers[laid - 1] * 10 + sign - '0';
            }
            return true;
        }

        private boolean takeJoint(int sign) {
            switch (sign) {
                case '&':
                    stage = AT_UNIT;
                    return true;
                case '|':
                    stage = AT_UNIT;
                    lay(sign);
                    return true;
                case ')':
                    stage = AFTER_UNIT;
                    open--;
                    lay(sign);
                    return open >= 0;
                case ';':
                    stage = AT_ORDER;
                    return open == 0;
                default:
                    return false;
            }
        }

        private boolean takeOrder(int sign) {
            stage = AFTER_ORDER;
            order = sign;
            digits = 0;
            return sign == 'n' || sign == 'g';
        }

        private boolean takePrizeDigit(int sign) {
            stage = IN_PRIZES;
            digits++;
            if (!isDigit(sign) || digits > MOST_DIGITS) {
                return false;
            }
            prizes = prizes * 10 + sign - '0';
            return true;
        }

        private static boolean isDigit(int sign) {
            return within(sign, '0', '9');
        }

        private void lay(int part) {
            if (within(laid, 0, MOST_BYTES - 1)) {
                parts[laid] = part;
                signs[laid] = NONE;
                numbers[laid] = 0;
                laid++;
            }
        }

        private static int factNamed(int word) {
            switch (word) {
                case 's':
                    return SEX;
                case 'y':
                    return YEAR;
                case 't':
                    return TEAM;
                case 'p':
                    return PEN;
                case 'k':
                    return KIND;
                default:
                    return NONE;
            }
        }

        /** Whether the TESTS of a TEXT without FAULT hold. The bit 1 << d stands for the depth d. */
        boolean holdsFor(Race race, int runner) {
            int depth = 1;
            int failed = 0;
            int held = 0;
            for (int i = 0; i < laid && i < MOST_BYTES; i++) {
                if (parts[i] == '(') {
                    depth <<= 1;
                    failed &= ~depth;
                    held &= ~depth;
                } else if (parts[i] == '|') {
                    held |= depth & ~failed;
                    failed &= ~depth;
                } else if (parts[i] == ')') {
                    boolean holds = (depth & (held | ~failed)) != 0;
                    depth >>= 1;
                    failed |= holds ? 0 : depth;
                } else if (!unitHolds(race, runner, i)) {
                    failed |= depth;
                }
            }
            return (depth & (held | ~failed)) != 0;
        }

        private boolean unitHolds(Race race, int runner, int i) {
            if (!within(i, 0, MOST_BYTES - 1)) {
                return false;
            }
            int fact = race.runners.factOf(runner, factNamed(parts[i]));
            switch (signs[i]) {
                case '<':
                    return fact < numbers[i];
                case '>':
                    return fact > numbers[i];
                default:
                    return fact == numbers[i];
            }
        }
    }

    /** The LIST: of each RUNNER the time that ORDER names, NONE for those who are not in it. */
    private static final class Listing {
        private final Reading reading = new Reading();
        private final int[] times = new int[MOST_RUNNERS];

        int faultOf(Text text) {
            return reading.read(text);
        }

        /** False: the TEXT has a FAULT. */
        boolean gather(Text text, Race race) {
            if (reading.read(text) != NONE) {
                return false;
            }
            Arrays.fill(times, NONE);
            for (int runner = 0; runner < race.runners.size() && runner < MOST_RUNNERS; runner++) {
                if (reading.holdsFor(race, runner)) {
                    boolean byGun = reading.ordersByGunTime();
                    int tick = byGun ? race.gunOf(runner) : race.startOf(runner);
                    times[runner] = race.timeSince(runner, tick);
                }
            }
            return true;
        }

        private int timeIn(int runner) {
            return within(runner, 0, MOST_RUNNERS - 1) ? times[runner] : NONE;
        }

        int size() {
            int many = 0;
            for (int runner = 0; runner < MOST_RUNNERS; runner++) {
                if (times[runner] != NONE) {
                    many++;
                }
            }
            return many;
        }

        private int howManyBelow(int time) {
            int many = 0;
            for (int runner = 0; runner < MOST_RUNNERS; runner++) {
                if (times[runner] != NONE && times[runner] < time) {
                    many++;
                }
            }
            return many;
        }

        int placeOf(int runner) {
            int time = timeIn(runner);
            return time == NONE ? NONE : 1 + howManyBelow(time);
        }

        /** How many stand before a RUNNER of the LIST: by time, then by number. */
        private int indexOf(int runner) {
            int time = timeIn(runner);
            int index = howManyBelow(time);
            for (int other = 0; other < runner; other++) {
                if (timeIn(other) == time) {
                    index++;
                }
            }
            return index;
        }

        int runnerAt(int i) {
            for (int runner = 0; runner < MOST_RUNNERS; runner++) {
                if (times[runner] != NONE && indexOf(runner) == i) {
                    return runner;
                }
            }
            return NONE;
        }

        int prizeWinners() {
            int winners = 0;
            for (int runner = 0; runner < MOST_RUNNERS; runner++) {
                if (times[runner] != NONE && placeOf(runner) <= reading.prizeNumber()) {
                    winners++;
                }
            }
            return winners;
        }

        int bestOfTeam(Race race, int team, int n) {
            leaveOnlyTeam(race, team);
            if (size() < n) {
                return NONE;
            }
            int sum = 0;
            for (int runner = 0; runner < MOST_RUNNERS; runner++) {
                if (times[runner] != NONE && indexOf(runner) < n) {
                    sum += times[runner];
                }
            }
            return sum;
        }

        private void leaveOnlyTeam(Race race, int team) {
            for (int runner = 0; runner < MOST_RUNNERS; runner++) {
                if (race.runners.factOf(runner, TEAM) != team) {
                    times[runner] = NONE;
                }
            }
        }
    }
}
