import java.util.Arrays;

/** A pool told as a text, and what comes of dives in it. README.md says how to use it. */
public final class DepthBoard {
    public static final int NONE = -1;

    // What refused calls answer.
    private static final int NO_SUCH = -2;
    private static final int BAD_NUMBER = -3;
    private static final int TOO_MANY = -4;
    private static final int NOT_NOW = -5;
    private static final int MISSING = -6;
    private static final int NO_PLACE = -7;
    private static final int WHY_NOT = -10;
    private static final int FAULTY = -30;

    // Why a deed can't be.
    private static final int UNKNOWN = 1;
    private static final int UNFIT = 2;

    private static final int MOST_BYTES = 900;
    private static final int BYTES_A_FEED = 20;
    private static final int MOST_THINGS = 6;
    private static final int MOST_GOERS = 6;
    private static final int MOST_DEEP = 99;
    private static final int MOST_BOLD = 9;
    private static final int BOARDS = MOST_DEEP + 1;
    private static final int STATES = BOARDS << MOST_THINGS;
    // From one stand no more than 16 sets of things can come, each with any board: MostSetsTest tries all needs and depths.
    private static final int MOST_PLACES = 16 * BOARDS;
    private static final int MOST_UNDONE = 10;
    private static final int MOST_TIMES = 40;
    private static final int MOST_IN_TRAY = 40;
    private static final int MOST_IN_ROW = 12;
    private static final int MOST_BY_CHANCE = 6;

    // Where the deeds of a tray begin, and where their numbers end.
    private static final int LAST_DIVE = 9;
    private static final int SAY = 1000;
    private static final int LAST_SAY = 1999;
    private static final int WIPE = 2000;
    private static final int LAST_WIPE = 2009;
    private static final int BE_BOLD = 3000;
    private static final int LAST_BE_BOLD = 3099;

    // A law is a row of steps, each with its kind in the low bits and its number above them.
    private static final int KIND_BITS = 4;
    private static final int KIND_MASK = 15;
    private static final int PUT_NUMBER = 0;
    private static final int PUT_KNOWN = 1;
    private static final int PLUS = 2;
    private static final int MINUS = 3;
    private static final int TIMES = 4;
    private static final int EQUAL = 5;
    private static final int LESS = 6;
    private static final int MORE = 7;
    private static final int NOT = 8;
    private static final int AND = 9;
    private static final int OR = 10;
    private static final int CHOOSE = 11;

    // What a law can ask for, by its place among what a dive knows.
    private static final int WHO = 0;
    private static final int BOLD = 1;
    private static final int BOARD = 2;
    private static final int THINGS = 3;
    private static final int BREATH = 4;
    private static final int REACH = 5;
    private static final int ALL_KNOWN = 6;

    private static final int[] NO_LAW = {};

    private final Reader reader;
    private final Diver diver;
    private final Stand now;
    private final Stand trial;
    private final Past past;
    private final Tray[] trays;
    private final Image[] images;
    private Pool pool;
    // Large, and many objects never ask for them: made when first asked for.
    private Search search;
    private Tally tally;
    private Game game;

    public DepthBoard() {
        reader = new Reader();
        diver = new Diver();
        now = new Stand();
        trial = new Stand();
        past = new Past();
        pool = new Pool();
        trays = new Tray[] {new Tray(), new Tray(), new Tray(), new Tray()};
        images = new Image[] {new Image(), new Image()};
    }

    // ---- the pool

    public int feed(int a, int b, int c, int d, int e) {
        if (reader.fed + BYTES_A_FEED > MOST_BYTES) {
            return NOT_NOW;
        }
        reader.add(a);
        reader.add(b);
        reader.add(c);
        reader.add(d);
        reader.add(e);
        return reader.fed;
    }

    public int pool(int n) {
        if (n < 0 || n > reader.fed) {
            return BAD_NUMBER;
        }
        Pool draft = new Pool();
        reader.read(n, draft);
        if (reader.fault != 0) {
            return FAULTY - reader.fault;
        }
        pool = draft;
        now.begin(pool);
        past.forget();
        return pool.lines;
    }

    public int fault(int what) {
        if (what == 0) {
            return reader.fault;
        }
        return what == 1 ? reader.place : NONE;
    }

    public int thing(int t, int what) {
        if (!isThing(t)) {
            return NO_SUCH;
        }
        switch (what) {
            case 0: return pool.depth[t];
            case 1: return pool.guard[t];
            case 2: return pool.needs[t];
            case 3: return has(now.things, t) ? 1 : 0;
            default: return NO_SUCH;
        }
    }

    public int goer(int g, int what) {
        if (!isGoer(g)) {
            return NO_SUCH;
        }
        if (what > 2) {
            diver.look(pool, now, g, now.board, now.things);
        }
        switch (what) {
            case 0: return now.breath[g];
            case 1: return now.bold[g];
            case 2: return pool.odds[g];
            case 3: return diver.reach;
            case 4: return diver.post;
            default: return NO_SUCH;
        }
    }

    public int shows(int g) {
        if (!isGoer(g)) {
            return NO_SUCH;
        }
        diver.look(pool, now, g, now.board, now.things);
        return diver.things;
    }

    public int truthful() {
        int set = 0;
        for (int g = 0; g < pool.goers; g++) {
            diver.look(pool, now, g, now.board, now.things);
            if (diver.post == diver.reach) {
                set |= 1 << g;
            }
        }
        return set;
    }

    // ---- deeds

    public int dive(int g) {
        past.mark(now);
        int why = actDive(now, g);
        if (why != 0) {
            return WHY_NOT - why;
        }
        past.keep();
        return now.board;
    }

    public int say(int g, int n) {
        past.mark(now);
        int why = actSay(now, g, n);
        if (why != 0) {
            return WHY_NOT - why;
        }
        past.keep();
        return diver.reach;
    }

    public int wipe(int t) {
        past.mark(now);
        int why = actWipe(now, t);
        if (why != 0) {
            return WHY_NOT - why;
        }
        past.keep();
        return Integer.bitCount(now.things);
    }

    public int breath(int g, int n) {
        if (!isGoer(g) || n < 0 || n > MOST_DEEP) {
            return WHY_NOT - UNKNOWN;
        }
        past.mark(now);
        past.keep();
        int was = now.breath[g];
        now.breath[g] = n;
        return was;
    }

    public int bold(int g, int n) {
        int was = isGoer(g) ? now.bold[g] : 0;
        past.mark(now);
        int why = actBold(now, g, n);
        if (why != 0) {
            return WHY_NOT - why;
        }
        past.keep();
        return was;
    }

    public int undo(int n) {
        if (n < 1 || n > past.size) {
            return BAD_NUMBER;
        }
        past.bringBack(n, now);
        return past.size;
    }

    public int judge(int tray, int what) {
        if (!isTray(tray) || what < 0 || what > 3) {
            return NO_SUCH;
        }
        if (trays[tray].missing) {
            return MISSING;
        }
        trial.become(now);
        int done = actAll(trial, trays[tray]);
        boolean all = done >= trays[tray].size;
        switch (what) {
            case 0: return all ? NONE : done;
            case 1: return all ? 0 : act(trial, trays[tray].numbers[done]);
            case 2: return trial.things;
            default: return trial.board;
        }
    }

    public int perform(int tray) {
        if (!isTray(tray)) {
            return NO_SUCH;
        }
        if (trays[tray].missing) {
            return MISSING;
        }
        past.mark(now);
        int done = actAll(now, trays[tray]);
        if (done > 0) {
            past.keep();
        }
        return done;
    }

    public int summer(int seed, int times) {
        if (times < 1 || times > MOST_TIMES) {
            return BAD_NUMBER;
        }
        past.mark(now);
        int x = seed;
        int done = 0;
        for (int i = 0; i < times; i++) {
            x = drawnNext(x);
            int kind = drawn(x) % 6;
            x = drawnNext(x);
            int deed = drawn(x) % 6;
            if (kind == 4) {
                deed += WIPE;
            } else if (kind == 5) {
                x = drawnNext(x);
                deed = BE_BOLD + 10 * deed + drawn(x) % 10;
            }
            if (act(now, deed) == 0) {
                done++;
            }
        }
        if (done > 0) {
            past.keep();
        }
        return done;
    }

    // ---- coming

    public int soonest(int t, int set) {
        int refused = comingRefused(t, set);
        if (refused != 0) {
            return refused;
        }
        Search found = explored(set);
        return found.divesTo(found.placeOfThing(t));
    }

    public int way(int t, int set, int i) {
        int refused = comingRefused(t, set);
        if (refused != 0) {
            return refused;
        }
        if (i < 0) {
            return BAD_NUMBER;
        }
        Search found = explored(set);
        return found.goerTo(found.placeOfThing(t), i);
    }

    public int tells(int n, int set) {
        if (n < 0 || n > MOST_DEEP || !isSet(set)) {
            return BAD_NUMBER;
        }
        Search found = explored(set);
        return found.divesTo(found.placeOfBoard(n));
    }

    public int tellsBy(int n, int set, int i) {
        if (n < 0 || n > MOST_DEEP || !isSet(set) || i < 0) {
            return BAD_NUMBER;
        }
        Search found = explored(set);
        return found.goerTo(found.placeOfBoard(n), i);
    }

    public long rows(int t, int n) {
        if (!isThing(t)) {
            return NO_SUCH;
        }
        if (n < 0 || n > MOST_IN_ROW) {
            return BAD_NUMBER;
        }
        Tally counted = tallyOfAll();
        counted.seeNothing();
        counted.spreadAlike(n);
        return counted.totalWith(t);
    }

    public int needed(int t) {
        if (!isThing(t)) {
            return NO_SUCH;
        }
        Search found = ready();
        if (has(now.things, t) || !has(found.canBe(allGoers()), t)) {
            return 0;
        }
        int set = 0;
        for (int g = 0; g < pool.goers; g++) {
            if (!has(found.canBe(allGoers() & ~(1 << g)), t)) {
                set |= 1 << g;
            }
        }
        return set;
    }

    public int fewest(int t) {
        if (!isThing(t)) {
            return NO_SUCH;
        }
        Search found = ready();
        if (!has(found.canBe(allGoers()), t)) {
            return NONE;
        }
        for (int size = 0; size < pool.goers; size++) {
            for (int set = 0; set <= allGoers(); set++) {
                if (Integer.bitCount(set) == size && has(found.canBe(set), t)) {
                    return set;
                }
            }
        }
        return allGoers();
    }

    // ---- how deep

    public int deepest(int set) {
        if (!isSet(set)) {
            return BAD_NUMBER;
        }
        Search found = explored(set);
        int most = now.board;
        for (int p = 0; p < found.size; p++) {
            most = Math.max(most, boardOf(found.order[p]));
        }
        return most;
    }

    public int shallowest(int set) {
        if (!isSet(set)) {
            return BAD_NUMBER;
        }
        Search found = explored(set);
        int least = now.board;
        for (int p = 0; p < found.size; p++) {
            least = Math.min(least, boardOf(found.order[p]));
        }
        return least;
    }

    public int numbersTold(int set) {
        if (!isSet(set)) {
            return BAD_NUMBER;
        }
        Search found = explored(set);
        NumberSet told = new NumberSet();
        for (int p = 0; p < found.size; p++) {
            told.add(boardOf(found.order[p]));
        }
        return told.size();
    }

    public int possible(int set) {
        return isSet(set) ? ready().canBe(set) : BAD_NUMBER;
    }

    public int stands(int set) {
        return isSet(set) ? explored(set).size : BAD_NUMBER;
    }

    // ---- posted

    public long posted(int tray) {
        int refused = postedRefused(tray);
        if (refused != 0) {
            return refused;
        }
        Tally counted = tallyOfAll();
        counted.see(trays[tray]);
        counted.spreadAlike(trays[tray].size);
        return counted.totalOfAll();
    }

    public int whoPosted(int tray, int i) {
        int refused = postedRefused(tray);
        if (refused != 0) {
            return refused;
        }
        if (i < 0) {
            return BAD_NUMBER;
        }
        int dives = trays[tray].size;
        if (i >= dives) {
            return NONE;
        }
        Tally counted = tallyOfAll();
        counted.see(trays[tray]);
        counted.markBack(dives);
        return counted.firstGoer(i);
    }

    public int suspects(int tray) {
        int refused = postedRefused(tray);
        if (refused != 0) {
            return refused;
        }
        int dives = trays[tray].size;
        Tally counted = tallyOfAll();
        counted.see(trays[tray]);
        counted.markBack(dives);
        return counted.goersOfAny(dives);
    }

    public int bolds(int tray, int g) {
        int refused = aloneRefused(tray, g);
        if (refused != 0) {
            return refused;
        }
        int set = 0;
        for (int b = 0; b <= MOST_BOLD; b++) {
            if (wentAlone(trays[tray], g, b)) {
                set |= 1 << b;
            }
        }
        return set;
    }

    public int nexts(int tray, int g) {
        int refused = aloneRefused(tray, g);
        if (refused != 0) {
            return refused;
        }
        NumberSet posts = new NumberSet();
        for (int b = 0; b <= MOST_BOLD; b++) {
            if (wentAlone(trays[tray], g, b)) {
                diver.look(pool, trial, g, trial.board, trial.things);
                posts.add(diver.post);
            }
        }
        return posts.size();
    }

    // ---- forcing

    public int forces(int t, int first, int second) {
        int refused = forcingRefused(t, first, second);
        if (refused != 0) {
            return refused;
        }
        return gameOf(first, second).play(t);
    }

    public int best(int t, int first, int second) {
        int refused = forcingRefused(t, first, second);
        if (refused != 0) {
            return refused;
        }
        Game played = gameOf(first, second);
        return played.firstBest(played.play(t));
    }

    public int power(int first, int second) {
        if (!isSet(first) || !isSet(second)) {
            return BAD_NUMBER;
        }
        Game played = gameOf(first, second);
        int set = 0;
        for (int t = 0; t < pool.things; t++) {
            if (played.play(t) != NONE) {
                set |= 1 << t;
            }
        }
        return set;
    }

    // ---- chances

    public long chance(int t, int n, int what) {
        if (!isThing(t) || what < 0 || what > 1) {
            return NO_SUCH;
        }
        if (n < 0 || n > MOST_BY_CHANCE) {
            return BAD_NUMBER;
        }
        Tally counted = tallyOfAll();
        counted.spreadByOdds(n);
        long above = counted.totalWith(t);
        long below = counted.totalOfAll();
        long shared = greatestShared(above, below);
        if (shared == 0) {
            return NONE;
        }
        return (what == 0 ? above : below) / shared;
    }

    public int likeliest(int n) {
        if (n < 0 || n > MOST_BY_CHANCE) {
            return BAD_NUMBER;
        }
        Tally counted = tallyOfAll();
        counted.spreadByOdds(n);
        int likeliest = NONE;
        long most = NONE;
        for (int t = 0; t < pool.things; t++) {
            long above = has(now.things, t) ? NONE : counted.totalWith(t);
            if (above > most) {
                most = above;
                likeliest = t;
            }
        }
        return likeliest;
    }

    // ---- trays, images

    public int numbers(int tray, int sort, int n) {
        if (!isTray(tray) || sort < 0 || sort > 3) {
            return NO_SUCH;
        }
        if (n < 0 || n > MOST_IN_TRAY) {
            return BAD_NUMBER;
        }
        trays[tray].begin(sort, n);
        return 0;
    }

    public long write(int tray, int i, long v) {
        if (!isTray(tray)) {
            return NO_SUCH;
        }
        if (trays[tray].missing) {
            return MISSING;
        }
        if (i < 0 || i >= trays[tray].size) {
            return NO_PLACE;
        }
        return trays[tray].put(i, v);
    }

    public int lists(int tray, int t, int set) {
        if (!isTray(tray) || !isThing(t)) {
            return NO_SUCH;
        }
        if (trays[tray].missing) {
            return MISSING;
        }
        if (!isSet(set)) {
            return BAD_NUMBER;
        }
        Search found = explored(set);
        int place = found.placeOfThing(t);
        if (place == NONE) {
            return NOT_NOW;
        }
        int come = Math.min(found.divesTo(place), trays[tray].size);
        for (int i = 0; i < come; i++) {
            trays[tray].put(i, found.goerTo(place, i));
        }
        return come;
    }

    public int image(int i) {
        if (i < 0 || i >= images.length) {
            return NO_SUCH;
        }
        images[i].made = true;
        images[i].pool = pool;
        images[i].stand.become(now);
        return 0;
    }

    public int restore(int i) {
        if (i < 0 || i >= images.length) {
            return NO_SUCH;
        }
        if (!images[i].made) {
            return NOT_NOW;
        }
        pool = images[i].pool;
        now.become(images[i].stand);
        past.forget();
        return 0;
    }

    public int count(int what) {
        switch (what) {
            case 0: return now.board;
            case 1: return pool.things;
            case 2: return now.things;
            case 3: return pool.goers;
            case 4: return pool.allOdds();
            case 5: return pool.greatestDepth();
            case 6: return past.size;
            case 7: return reader.fed;
            case 8: return pool.lines;
            default: return NONE;
        }
    }

    // ---- what calls are refused for

    private boolean isThing(int t) {
        return t >= 0 && t < pool.things;
    }

    private boolean isGoer(int g) {
        return g >= 0 && g < pool.goers;
    }

    private boolean isTray(int tray) {
        return tray >= 0 && tray < trays.length;
    }

    private boolean isSet(int set) {
        return (set & ~allGoers()) == 0;
    }

    private int allGoers() {
        return (1 << pool.goers) - 1;
    }

    private int comingRefused(int t, int set) {
        if (!isThing(t)) {
            return NO_SUCH;
        }
        return isSet(set) ? 0 : BAD_NUMBER;
    }

    private int forcingRefused(int t, int first, int second) {
        if (!isThing(t)) {
            return NO_SUCH;
        }
        return isSet(first) && isSet(second) ? 0 : BAD_NUMBER;
    }

    private int postedRefused(int tray) {
        if (!isTray(tray)) {
            return NO_SUCH;
        }
        Tray told = trays[tray];
        if (told.missing) {
            return MISSING;
        }
        if (told.size < 1 || told.size > MOST_IN_ROW) {
            return TOO_MANY;
        }
        for (int i = 0; i < told.size; i++) {
            if (told.numbers[i] < NONE || told.numbers[i] > MOST_DEEP) {
                return BAD_NUMBER;
            }
        }
        return 0;
    }

    private int aloneRefused(int tray, int g) {
        if (!isTray(tray) || !isGoer(g)) {
            return NO_SUCH;
        }
        return postedRefused(tray);
    }

    // ---- how deeds are done: each answers why it can't be, 0 if it was done

    private int act(Stand stand, long deed) {
        if (deed < 0 || deed > LAST_BE_BOLD) {
            return UNKNOWN;
        }
        int v = (int) deed;
        if (v <= LAST_DIVE) {
            return actDive(stand, v);
        }
        if (v >= SAY && v <= LAST_SAY) {
            return actSay(stand, (v - SAY) / 100, v % 100);
        }
        if (v >= WIPE && v <= LAST_WIPE) {
            return actWipe(stand, v - WIPE);
        }
        if (v >= BE_BOLD) {
            return actBold(stand, (v - BE_BOLD) / 10, v % 10);
        }
        return UNKNOWN;
    }

    /** Does deeds till one can't be, and answers how many it did. */
    private int actAll(Stand stand, Tray deeds) {
        for (int i = 0; i < deeds.size; i++) {
            if (act(stand, deeds.numbers[i]) != 0) {
                return i;
            }
        }
        return deeds.size;
    }

    private int actDive(Stand stand, int g) {
        if (!isGoer(g)) {
            return UNKNOWN;
        }
        diver.look(pool, stand, g, stand.board, stand.things);
        stand.things = diver.things;
        stand.board = diver.post;
        return 0;
    }

    private int actSay(Stand stand, int g, int n) {
        if (!isGoer(g) || n < 0 || n > MOST_DEEP) {
            return UNKNOWN;
        }
        diver.look(pool, stand, g, stand.board, stand.things);
        if (n < diver.reach) {
            return UNFIT;
        }
        stand.things = diver.things;
        stand.board = n;
        return 0;
    }

    private int actWipe(Stand stand, int t) {
        if (!isThing(t)) {
            return UNKNOWN;
        }
        if (!has(stand.things, t)) {
            return UNFIT;
        }
        stand.things &= ~(1 << t);
        return 0;
    }

    private int actBold(Stand stand, int g, int n) {
        if (!isGoer(g) || n < 0 || n > MOST_BOLD) {
            return UNKNOWN;
        }
        stand.bold[g] = n;
        return 0;
    }

    /** Whether a goer that is so bold, going alone, would have posted these; the trial stands behind them then. */
    private boolean wentAlone(Tray told, int g, int boldness) {
        trial.become(now);
        trial.bold[g] = boldness;
        for (int i = 0; i < told.size; i++) {
            actDive(trial, g);
            if (told.numbers[i] != NONE && told.numbers[i] != trial.board) {
                return false;
            }
        }
        return true;
    }

    // ---- searches, made when first asked for

    private Search ready() {
        if (search == null) {
            search = new Search(diver, pool);
        }
        search.begin(pool, now);
        return search;
    }

    private Search explored(int set) {
        Search found = ready();
        found.explore(set);
        return found;
    }

    private Tally tallyOfAll() {
        Search found = ready();
        found.explore(allGoers());
        if (tally == null) {
            tally = new Tally(found);
        }
        return tally;
    }

    private Game gameOf(int first, int second) {
        Search found = ready();
        found.explore(first | second);
        if (game == null) {
            game = new Game(found);
        }
        game.begin(first, second);
        return game;
    }

    // ---- small things

    private static boolean has(int bits, int i) {
        return (bits >> i & 1) != 0;
    }

    private static int stateOf(int board, int things) {
        return things * BOARDS + board;
    }

    private static int boardOf(int state) {
        return state % BOARDS;
    }

    private static int thingsOf(int state) {
        return state / BOARDS;
    }

    private static int drawnNext(int x) {
        return 1103515245 * x + 12345;
    }

    private static int drawn(int x) {
        return x >>> 16;
    }

    private static long greatestShared(long a, long b) {
        long more = a;
        long less = b;
        // No pair of longs needs a hundred steps.
        for (int i = 0; i < 100 && less != 0; i++) {
            long rest = more % less;
            more = less;
            less = rest;
        }
        return more;
    }

    /** What a text tells. It never changes once it is read, so images can share it. */
    private static final class Pool {
        final int[] depth = new int[MOST_THINGS];
        final int[] guard = new int[MOST_THINGS];
        final int[] needs = new int[MOST_THINGS];
        final int[] breath = new int[MOST_GOERS];
        final int[] bold = new int[MOST_GOERS];
        final int[] odds = new int[MOST_GOERS];
        int[] reaches = NO_LAW;
        int[] tells = NO_LAW;
        int board;
        int there;
        int things;
        int goers;
        int lines;

        int allOdds() {
            int all = 0;
            for (int g = 0; g < goers; g++) {
                all += odds[g];
            }
            return all;
        }

        int greatestDepth() {
            int most = NONE;
            for (int t = 0; t < things; t++) {
                most = Math.max(most, depth[t]);
            }
            return most;
        }
    }

    /** All that deeds can change. */
    private static final class Stand {
        final int[] breath = new int[MOST_GOERS];
        final int[] bold = new int[MOST_GOERS];
        int board;
        int things;

        void begin(Pool pool) {
            board = pool.board;
            things = pool.there;
            System.arraycopy(pool.breath, 0, breath, 0, MOST_GOERS);
            System.arraycopy(pool.bold, 0, bold, 0, MOST_GOERS);
        }

        void become(Stand other) {
            board = other.board;
            things = other.things;
            System.arraycopy(other.breath, 0, breath, 0, MOST_GOERS);
            System.arraycopy(other.bold, 0, bold, 0, MOST_GOERS);
        }
    }

    /** The latest stands, in a ring with one place more than can be undone: a mark that isn't kept strikes none. */
    private static final class Past {
        private static final int PLACES = MOST_UNDONE + 1;
        final Stand[] ring = new Stand[PLACES];
        int top;
        int size;

        Past() {
            for (int i = 0; i < PLACES; i++) {
                ring[i] = new Stand();
            }
        }

        void mark(Stand stand) {
            ring[top].become(stand);
        }

        void keep() {
            top = (top + 1) % PLACES;
            size = Math.min(size + 1, MOST_UNDONE);
        }

        /** For 1 to size calls. */
        void bringBack(int calls, Stand stand) {
            top = (top + PLACES - calls) % PLACES;
            size -= calls;
            stand.become(ring[top]);
        }

        void forget() {
            size = 0;
        }
    }

    private static final class Image {
        final Stand stand = new Stand();
        Pool pool = new Pool();
        boolean made;
    }

    private static final class Tray {
        final long[] numbers = new long[MOST_IN_TRAY];
        boolean missing = true;
        int sort;
        int size;

        void begin(int newSort, int newSize) {
            missing = false;
            sort = newSort;
            size = newSize;
            Arrays.fill(numbers, 0L);
        }

        long put(int i, long v) {
            switch (sort) {
                case 0: numbers[i] = (byte) v; break;
                case 1: numbers[i] = (short) v; break;
                case 2: numbers[i] = (int) v; break;
                default: numbers[i] = v; break;
            }
            return numbers[i];
        }
    }

    /** Numbers from 0 to 99. */
    private static final class NumberSet {
        private static final int HALF = 50;
        long low;
        long high;

        void add(int n) {
            if (n < HALF) {
                low |= 1L << n;
            } else {
                high |= 1L << (n - HALF);
            }
        }

        int size() {
            return Long.bitCount(low) + Long.bitCount(high);
        }
    }

    /** The tape. Its text is read token by token up to the first fault: from then on no token fits anything. */
    private static final class Reader {
        private static final int END = 0;
        private static final int WORD = 1;
        private static final int NUMBER = 2;
        private static final int SIGN = 3;
        private static final int STOPPED = 4;

        private static final int NO_TOKEN = 1;
        private static final int CANT_STAND = 2;
        private static final int OUT_OF_BOUNDS = 3;
        private static final int ONE_TOO_MANY = 4;

        private static final int MOST_DIGITS = 3;
        private static final int MOST_GUARD = 10;
        private static final int MOST_ODDS = 9;
        private static final int MOST_OPEN = 6;
        private static final String SIGNS = ";:+-*()[]=<>";

        final byte[] text = new byte[MOST_BYTES];
        final int[] law = new int[MOST_BYTES];
        Pool draft = new Pool();
        int fed;
        int length;
        int start;
        int end;
        int kind;
        int value;
        int steps;
        boolean ofTells;
        int fault;
        int place = NONE;

        void add(int four) {
            for (int shift = 24; shift >= 0; shift -= 8) {
                if (fed < MOST_BYTES) {
                    text[fed] = (byte) (four >> shift);
                    fed++;
                }
            }
        }

        void read(int n, Pool pool) {
            draft = pool;
            length = n;
            fed = 0;
            end = 0;
            fault = 0;
            place = NONE;
            advance();
            takeWord("pool");
            draft.board = takeNumber(MOST_DEEP);
            endLine();
            for (int i = 0; i < MOST_BYTES && kind != END && kind != STOPPED; i++) {
                if (isWord("thing")) {
                    readThing();
                } else if (isWord("goer")) {
                    readGoer();
                } else if (isWord("reaches")) {
                    ofTells = false;
                    draft.reaches = readLaw();
                } else if (isWord("tells")) {
                    ofTells = true;
                    draft.tells = readLaw();
                } else {
                    fail(CANT_STAND);
                }
                endLine();
            }
        }

        private void endLine() {
            takeSign(';');
            draft.lines++;
        }

        private void readThing() {
            int t = draft.things;
            if (t >= MOST_THINGS) {
                fail(ONE_TOO_MANY);
                return;
            }
            advance();
            takeWord("at");
            draft.depth[t] = takeNumber(MOST_DEEP);
            boolean more = true;
            for (int i = 0; i < MOST_BYTES && more; i++) {
                more = tookPart(t);
            }
            draft.things++;
        }

        private boolean tookPart(int t) {
            if (isWord("guard")) {
                advance();
                draft.guard[t] = takeNumber(MOST_GUARD);
                return true;
            }
            if (isWord("needs")) {
                advance();
                draft.needs[t] |= 1 << takeNumber(t - 1);
                return true;
            }
            if (isWord("there")) {
                advance();
                draft.there |= 1 << t;
                return true;
            }
            return false;
        }

        private void readGoer() {
            int g = draft.goers;
            if (g >= MOST_GOERS) {
                fail(ONE_TOO_MANY);
                return;
            }
            advance();
            takeWord("breath");
            draft.breath[g] = takeNumber(MOST_DEEP);
            draft.odds[g] = 1;
            boolean more = true;
            for (int i = 0; i < MOST_BYTES && more; i++) {
                more = tookFlag(g);
            }
            draft.goers++;
        }

        private boolean tookFlag(int g) {
            if (isWord("bold")) {
                advance();
                draft.bold[g] = takeNumber(MOST_BOLD);
                return true;
            }
            if (isWord("odds")) {
                advance();
                draft.odds[g] = takeNumber(MOST_ODDS);
                return true;
            }
            return false;
        }

        private int[] readLaw() {
            advance();
            takeSign(':');
            steps = 0;
            readSum(0);
            return Arrays.copyOf(law, steps);
        }

        // Behind each of these: how many of not [ ( if it stands within.

        private void readSum(int open) {
            readTerm(open);
            for (int i = 0; i < MOST_BYTES && (isSign('+') || isSign('-')); i++) {
                int step = isSign('+') ? PLUS : MINUS;
                advance();
                readTerm(open);
                emit(step, 0);
            }
        }

        private void readTerm(int open) {
            readAtom(open);
            for (int i = 0; i < MOST_BYTES && isSign('*'); i++) {
                advance();
                readAtom(open);
                emit(TIMES, 0);
            }
        }

        private void readAtom(int open) {
            int known = knownWord();
            if (kind == NUMBER) {
                emit(PUT_NUMBER, value);
                advance();
            } else if (known != NONE) {
                emit(PUT_KNOWN, known);
                advance();
            } else if (isSign('(')) {
                if (opens(open)) {
                    readSum(open + 1);
                    takeSign(')');
                }
            } else if (isWord("if")) {
                if (opens(open)) {
                    readChoice(open + 1);
                }
            } else {
                fail(CANT_STAND);
            }
        }

        private void readChoice(int open) {
            readTruth(open);
            takeWord("then");
            readSum(open);
            takeWord("else");
            readSum(open);
            takeWord("end");
            emit(CHOOSE, 0);
        }

        private void readTruth(int open) {
            readBoth(open);
            for (int i = 0; i < MOST_BYTES && isWord("or"); i++) {
                advance();
                readBoth(open);
                emit(OR, 0);
            }
        }

        private void readBoth(int open) {
            readUnit(open);
            for (int i = 0; i < MOST_BYTES && isWord("and"); i++) {
                advance();
                readUnit(open);
                emit(AND, 0);
            }
        }

        private void readUnit(int open) {
            if (isWord("not")) {
                if (opens(open)) {
                    readUnit(open + 1);
                    emit(NOT, 0);
                }
            } else if (isSign('[')) {
                if (opens(open)) {
                    readTruth(open + 1);
                    takeSign(']');
                }
            } else {
                readComparison(open);
            }
        }

        private void readComparison(int open) {
            readSum(open);
            int step = isSign('=') ? EQUAL : isSign('<') ? LESS : isSign('>') ? MORE : NONE;
            if (step == NONE) {
                fail(CANT_STAND);
                return;
            }
            advance();
            readSum(open);
            emit(step, 0);
        }

        /** Whether one more of not [ ( if may stand within so many; if so, it is taken. */
        private boolean opens(int open) {
            if (open >= MOST_OPEN) {
                fail(ONE_TOO_MANY);
                return false;
            }
            advance();
            return true;
        }

        private int knownWord() {
            if (isWord("who")) {
                return WHO;
            }
            if (isWord("bold")) {
                return BOLD;
            }
            if (isWord("board")) {
                return BOARD;
            }
            if (isWord("things")) {
                return THINGS;
            }
            if (ofTells) {
                return isWord("reach") ? REACH : NONE;
            }
            return isWord("breath") ? BREATH : NONE;
        }

        /** Each token brings one step at most, so that there is room for all of a text. */
        private void emit(int step, int number) {
            if (steps < law.length) {
                law[steps] = number << KIND_BITS | step;
                steps++;
            }
        }

        private boolean isSign(char sign) {
            return kind == SIGN && text[start] == sign;
        }

        private boolean isWord(String word) {
            if (kind != WORD || end - start != word.length()) {
                return false;
            }
            for (int i = 0; i < word.length(); i++) {
                if (text[start + i] != word.charAt(i)) {
                    return false;
                }
            }
            return true;
        }

        private void takeSign(char sign) {
            if (isSign(sign)) {
                advance();
            } else {
                fail(CANT_STAND);
            }
        }

        private void takeWord(String word) {
            if (isWord(word)) {
                advance();
            } else {
                fail(CANT_STAND);
            }
        }

        /** A number's bounds are looked at ahead of the next token: its fault is the earlier one. */
        private int takeNumber(int most) {
            if (kind != NUMBER) {
                fail(CANT_STAND);
                return 0;
            }
            if (value > most) {
                fail(OUT_OF_BOUNDS);
                return 0;
            }
            int taken = value;
            advance();
            return taken;
        }

        private void fail(int why) {
            if (fault == 0) {
                fault = why;
                place = start;
            }
            kind = STOPPED;
        }

        private void advance() {
            start = end;
            while (start < length && isBlank(text[start])) {
                start++;
            }
            end = start;
            if (start >= length) {
                kind = END;
            } else if (isLetter(text[start])) {
                endWord();
            } else if (isDigit(text[start])) {
                endNumber();
            } else if (SIGNS.indexOf((char) (text[start] & 255)) >= 0) {
                kind = SIGN;
                end = start + 1;
            } else {
                fail(NO_TOKEN);
            }
        }

        private void endWord() {
            kind = WORD;
            while (end < length && isLetter(text[end])) {
                end++;
            }
        }

        private void endNumber() {
            kind = NUMBER;
            value = 0;
            while (end < length && isDigit(text[end])) {
                if (end - start < MOST_DIGITS) {
                    value = 10 * value + text[end] - '0';
                }
                end++;
            }
            if (end - start > MOST_DIGITS) {
                fail(NO_TOKEN);
            }
        }

        private static boolean isBlank(byte c) {
            return c == ' ' || c == '\n';
        }

        private static boolean isLetter(byte c) {
            return c >= 'a' && c <= 'z';
        }

        private static boolean isDigit(byte c) {
            return c >= '0' && c <= '9';
        }
    }

    /** Looks at what a dive would do, and works out the laws for it. */
    private static final class Diver {
        private static final int LEAST_SUM = -1000000;
        private static final int MOST_SUM = 1000000;
        // Six of not [ ( if within one another hold five numbers each at most.
        private static final int PILE = 64;

        final int[] known = new int[ALL_KNOWN];
        final int[] pile = new int[PILE];
        int high;
        int reach;
        int things;
        int post;

        /** For a goer of the pool with the breath and boldness it has in a stand, at a board and things of its own. */
        void look(Pool pool, Stand stand, int goer, int board, int there) {
            known[WHO] = goer;
            known[BOLD] = stand.bold[goer];
            known[BOARD] = board;
            known[THINGS] = Integer.bitCount(there);
            known[BREATH] = stand.breath[goer];
            reach = stand.breath[goer];
            if (pool.reaches.length > 0) {
                reach = kept(worth(pool.reaches), 0, MOST_DEEP);
            }
            things = there;
            for (int t = 0; t < pool.things; t++) {
                if (has(there, t) && pool.guard[t] > stand.bold[goer]) {
                    reach = Math.min(reach, pool.depth[t]);
                }
            }
            for (int t = 0; t < pool.things; t++) {
                if (pool.depth[t] <= reach && (pool.needs[t] & ~there) == 0) {
                    things |= 1 << t;
                }
            }
            known[REACH] = reach;
            post = Math.min(board + 1, MOST_DEEP);
            if (pool.tells.length > 0) {
                post = kept(worth(pool.tells), 0, MOST_DEEP);
            }
        }

        private int worth(int[] law) {
            high = 0;
            for (int i = 0; i < law.length; i++) {
                int step = law[i] & KIND_MASK;
                int number = law[i] >> KIND_BITS;
                if (step == PUT_NUMBER) {
                    push(number);
                } else if (step == PUT_KNOWN) {
                    push(number >= 0 && number < ALL_KNOWN ? known[number] : 0);
                } else if (step == NOT) {
                    push(1 - pop());
                } else {
                    int right = pop();
                    int left = pop();
                    push(step == CHOOSE ? (pop() != 0 ? left : right) : joined(step, left, right));
                }
            }
            return pop();
        }

        private void push(int n) {
            if (high < PILE) {
                pile[high] = n;
                high++;
            }
        }

        private int pop() {
            if (high <= 0) {
                return 0;
            }
            high--;
            return pile[high];
        }

        private static int joined(int step, int left, int right) {
            switch (step) {
                case PLUS: return kept((long) left + right, LEAST_SUM, MOST_SUM);
                case MINUS: return kept((long) left - right, LEAST_SUM, MOST_SUM);
                case TIMES: return kept((long) left * right, LEAST_SUM, MOST_SUM);
                case EQUAL: return left == right ? 1 : 0;
                case LESS: return left < right ? 1 : 0;
                case MORE: return left > right ? 1 : 0;
                case AND: return left & right;
                default: return left | right;
            }
        }

        private static int kept(long n, int least, int most) {
            return n < least ? least : n > most ? most : (int) n;
        }
    }

    /**
     * All boards and things that a set of goers can bring about from a stand, in the order of their first rows:
     * fewer dives first, of like ones goer by goer. What a dive leads to is kept, as long as the goers stay as they are.
     */
    private static final class Search {
        private static final int SETS = 1 << MOST_GOERS;
        private static final int STATE_BITS = 13;
        private static final int STATE_MASK = (1 << STATE_BITS) - 1;
        private static final int LAST_AGE = 100000;

        final Diver diver;
        final Stand from = new Stand();
        // For each goer and state the state behind a dive, and above it the goer's age when it was looked at:
        // a goer that changes grows older, so that nothing has to be wiped away.
        final int[] behind = new int[MOST_GOERS * STATES];
        final int[] age = new int[MOST_GOERS];
        final int[] order = new int[MOST_PLACES];
        final int[] placeOf = new int[STATES];
        // For each place in the order: the place ahead of its last dive, who went, how many dives.
        final int[] ahead = new int[MOST_PLACES];
        final int[] by = new int[MOST_PLACES];
        final int[] dives = new int[MOST_PLACES];
        final int[] comes = new int[SETS];
        Pool pool;
        int goers = NONE;
        int size;

        Search(Diver diver, Pool pool) {
            this.diver = diver;
            this.pool = pool;
            Arrays.fill(age, 1);
        }

        /** Goes on from a stand; what was found is forgotten only if it isn't so any more. */
        void begin(Pool newPool, Stand stand) {
            boolean same = goers != NONE && pool == newPool && from.board == stand.board && from.things == stand.things;
            for (int g = 0; g < newPool.goers; g++) {
                if (pool != newPool || from.breath[g] != stand.breath[g] || from.bold[g] != stand.bold[g]) {
                    forgetGoer(g);
                    same = false;
                }
            }
            if (!same) {
                goers = NONE;
                Arrays.fill(comes, NONE);
            }
            pool = newPool;
            from.become(stand);
        }

        private void forgetGoer(int g) {
            age[g]++;
            if (age[g] > LAST_AGE) {
                Arrays.fill(behind, 0);
                age[g] = 1;
            }
        }

        void explore(int set) {
            if (goers == set) {
                return;
            }
            goers = set;
            size = 0;
            find(stateOf(from.board, from.things), 0, NONE);
            for (int p = 0; p < size && p < MOST_PLACES; p++) {
                for (int g = 0; g < pool.goers; g++) {
                    if (has(set, g)) {
                        find(after(g, order[p]), p, g);
                    }
                }
            }
        }

        private void find(int state, int place, int g) {
            // What older searches left at placeOf is told by the order itself.
            int known = placeOf[state];
            if (known < size && order[known] == state || size >= MOST_PLACES) {
                return;
            }
            order[size] = state;
            placeOf[state] = size;
            ahead[size] = place;
            by[size] = g;
            dives[size] = size == 0 ? 0 : dives[place] + 1;
            size++;
        }

        private int after(int g, int state) {
            int i = g * STATES + state;
            if (behind[i] >> STATE_BITS != age[g]) {
                diver.look(pool, from, g, boardOf(state), thingsOf(state));
                behind[i] = age[g] << STATE_BITS | stateOf(diver.post, diver.things);
            }
            return behind[i] & STATE_MASK;
        }

        /** The place a goer of the explored set leads to. */
        int placeAfter(int g, int place) {
            return placeOf[behind[g * STATES + order[place]] & STATE_MASK];
        }

        int boardAt(int place) {
            return boardOf(order[place]);
        }

        int thingsAt(int place) {
            return thingsOf(order[place]);
        }

        int placeOfThing(int t) {
            for (int p = 0; p < size; p++) {
                if (has(thingsAt(p), t)) {
                    return p;
                }
            }
            return NONE;
        }

        int placeOfBoard(int n) {
            for (int p = 0; p < size; p++) {
                if (boardAt(p) == n) {
                    return p;
                }
            }
            return NONE;
        }

        int divesTo(int place) {
            return place == NONE ? NONE : dives[place];
        }

        /** The i-th goer on the first way to a place. */
        int goerTo(int place, int i) {
            if (place == NONE || i >= dives[place]) {
                return NONE;
            }
            int p = place;
            for (int back = dives[place] - 1; back > i; back--) {
                p = ahead[p];
            }
            return by[p];
        }

        /** Things that can come to be there by a set of goers, as bits. */
        int canBe(int set) {
            if (comes[set] == NONE) {
                explore(set);
                int things = 0;
                for (int p = 0; p < size; p++) {
                    things |= thingsAt(p);
                }
                comes[set] = things;
            }
            return comes[set];
        }
    }

    /** Counts rows over what a search by all goers found. */
    private static final class Tally {
        final Search search;
        final int[] weight = new int[MOST_GOERS];
        final int[] seen = new int[MOST_IN_ROW];
        // For each place how many dives may lie ahead of it, as bits: so that the rest can be as seen; in some row.
        final int[] goesOn = new int[MOST_PLACES];
        final int[] comesTo = new int[MOST_PLACES];
        long[] total = new long[MOST_PLACES];
        long[] spare = new long[MOST_PLACES];

        Tally(Search search) {
            this.search = search;
        }

        void seeNothing() {
            Arrays.fill(seen, NONE);
        }

        void see(Tray told) {
            seeNothing();
            for (int i = 0; i < told.size && i < MOST_IN_ROW; i++) {
                seen[i] = (int) told.numbers[i];
            }
        }

        private boolean fits(int dive, int place) {
            return seen[dive] == NONE || seen[dive] == search.boardAt(place);
        }

        void spreadAlike(int dives) {
            Arrays.fill(weight, 1);
            spread(dives);
        }

        void spreadByOdds(int dives) {
            seeNothing();
            System.arraycopy(search.pool.odds, 0, weight, 0, MOST_GOERS);
            // With no odds at all nobody dives, so all stays as it is now.
            spread(search.pool.allOdds() == 0 ? 0 : dives);
        }

        /** How much all rows of so many dives weigh that lead to each place and are as seen. */
        private void spread(int dives) {
            clear(total);
            if (search.size > 0) {
                total[0] = 1;
            }
            for (int i = 0; i < dives && i < MOST_IN_ROW; i++) {
                clear(spare);
                for (int p = 0; p < search.size; p++) {
                    if (total[p] != 0) {
                        spreadFrom(p, i);
                    }
                }
                long[] old = total;
                total = spare;
                spare = old;
            }
        }

        private void clear(long[] row) {
            for (int p = 0; p < search.size; p++) {
                row[p] = 0;
            }
        }

        private void spreadFrom(int place, int dive) {
            for (int g = 0; g < search.pool.goers; g++) {
                int q = search.placeAfter(g, place);
                if (fits(dive, q)) {
                    spare[q] += total[place] * weight[g];
                }
            }
        }

        long totalOfAll() {
            long all = 0;
            for (int p = 0; p < search.size; p++) {
                all += total[p];
            }
            return all;
        }

        long totalWith(int t) {
            long all = 0;
            for (int p = 0; p < search.size; p++) {
                if (has(search.thingsAt(p), t)) {
                    all += total[p];
                }
            }
            return all;
        }

        void markBack(int dives) {
            for (int p = 0; p < search.size; p++) {
                goesOn[p] = 1 << dives;
                comesTo[p] = 0;
            }
            for (int i = dives - 1; i > 0; i--) {
                for (int p = 0; p < search.size; p++) {
                    if (firstOf(i, p) != NONE) {
                        goesOn[p] |= 1 << i;
                    }
                }
            }
        }

        /** Whether behind a dive of a goer all can go on as seen. */
        private boolean leads(int dive, int place, int g) {
            int q = search.placeAfter(g, place);
            return fits(dive, q) && has(goesOn[q], dive + 1);
        }

        private int firstOf(int dive, int place) {
            for (int g = 0; g < search.pool.goers; g++) {
                if (leads(dive, place, g)) {
                    return g;
                }
            }
            return NONE;
        }

        /** The i-th goer of the first row that is as seen. */
        int firstGoer(int i) {
            int place = 0;
            int g = firstOf(0, place);
            for (int dive = 1; dive <= i && g != NONE; dive++) {
                place = search.placeAfter(g, place);
                g = firstOf(dive, place);
            }
            return g;
        }

        int goersOfAny(int dives) {
            int set = 0;
            comesTo[0] = 1;
            for (int i = 0; i < dives; i++) {
                for (int p = 0; p < search.size; p++) {
                    if (has(comesTo[p], i)) {
                        set |= goersFrom(i, p);
                    }
                }
            }
            return set;
        }

        private int goersFrom(int dive, int place) {
            int set = 0;
            for (int g = 0; g < search.pool.goers; g++) {
                if (leads(dive, place, g)) {
                    set |= 1 << g;
                    comesTo[search.placeAfter(g, place)] |= 1 << (dive + 1);
                }
            }
            return set;
        }
    }

    /**
     * Two sides by turns, worked out backwards from where a thing is there.
     * A position is twice a place of the search, and 1 more if the second side sends next.
     */
    private static final class Game {
        private static final int POSITIONS = 2 * MOST_PLACES;

        final Search search;
        // Dives as place times MOST_GOERS and goer: for each place the last one leading there, and the one before each.
        final int[] last = new int[MOST_PLACES];
        final int[] before = new int[MOST_GOERS * MOST_PLACES];
        final int[] turns = new int[POSITIONS];
        // How many dives from a position still have to lead to the thing.
        final int[] open = new int[POSITIONS];
        final int[] queue = new int[POSITIONS];
        int queued;
        int first;
        int second;

        Game(Search search) {
            this.search = search;
        }

        void begin(int firstSide, int secondSide) {
            first = firstSide;
            second = secondSide;
            for (int p = 0; p < search.size; p++) {
                last[p] = NONE;
            }
            for (int p = 0; p < search.size; p++) {
                for (int g = 0; g < search.pool.goers; g++) {
                    if (has(first | second, g)) {
                        int q = search.placeAfter(g, p);
                        before[p * MOST_GOERS + g] = last[q];
                        last[q] = p * MOST_GOERS + g;
                    }
                }
            }
        }

        /** Within how many turns the first side forces a thing. */
        int play(int t) {
            setOut(t);
            for (int i = 0; i < queued && i < POSITIONS; i++) {
                int place = queue[i] >> 1;
                int mover = 1 - (queue[i] & 1);
                int side = mover == 0 ? first : second;
                int in = turns[queue[i]] + 1;
                if (side == 0) {
                    reachedFrom(2 * place + mover, in);
                } else {
                    reachedBy(place, side, mover, in);
                }
            }
            return turns[0];
        }

        private void setOut(int t) {
            int choices = Math.max(1, Integer.bitCount(second));
            queued = 0;
            for (int p = 0; p < 2 * search.size; p++) {
                turns[p] = NONE;
                // One dive is enough for the first side; of the second side's all have to lead there.
                open[p] = (p & 1) == 0 ? 1 : choices;
                if (has(search.thingsAt(p >> 1), t)) {
                    open[p] = 1;
                    reachedFrom(p, 0);
                }
            }
        }

        private void reachedBy(int place, int side, int mover, int in) {
            int dive = last[place];
            for (int i = 0; i < before.length && dive != NONE; i++) {
                if (has(side, dive % MOST_GOERS)) {
                    reachedFrom(2 * (dive / MOST_GOERS) + mover, in);
                }
                dive = before[dive];
            }
        }

        private void reachedFrom(int position, int in) {
            if (turns[position] != NONE || queued >= POSITIONS) {
                return;
            }
            open[position]--;
            if (open[position] <= 0) {
                turns[position] = in;
                queue[queued] = position;
                queued++;
            }
        }

        /** The first goer that keeps to so few turns. */
        int firstBest(int in) {
            for (int g = 0; in > 0 && g < search.pool.goers; g++) {
                if (has(first, g) && turns[2 * search.placeAfter(g, 0) + 1] == in - 1) {
                    return g;
                }
            }
            return NONE;
        }
    }
}
