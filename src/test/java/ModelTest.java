import java.util.ArrayList;
import java.util.List;
import java.util.Random;

/** Runs of calls by chance on the class and on the model: each answer has to be the same. */
public final class ModelTest {
    private static final int RUNS = Integer.getInteger("runs", 400);
    private static int wrong = 0;
    private final DepthBoard x = new DepthBoard();
    private final Model m = new Model();
    private final Random random;
    private final Texts texts;
    private final List<String> calls = new ArrayList<>();
    private int left;

    private ModelTest(long seed) {
        random = new Random(seed * 0x9E3779B97F4A7C15L);
        texts = new Texts(random);
    }

    public static void main(String[] args) {
        long asked = 0;
        for (int run = 0; run < RUNS && wrong < 5; run++) {
            ModelTest test = new ModelTest(run);
            test.left = 60 + test.random.nextInt(452);
            test.run(run % 4 == 0);
            asked += test.calls.size();
        }
        System.out.println("ModelTest: " + asked + " calls, " + wrong + " wrong");
        if (wrong != 0) System.exit(1);
    }

    private void due(String call, long got, long want) {
        calls.add(call + " = " + got);
        left--;
        if (got != want) {
            wrong++;
            System.out.println(call + " answered " + got + ", due is " + want + ", behind");
            for (String c : calls) System.out.println("    " + c);
            left = 0;
        }
    }

    private void run(boolean faults) {
        if (!faults) tell(texts.good());
        while (left > 0) {
            if (faults && random.nextInt(2) == 0) {
                tell(random.nextInt(10) == 0 ? texts.good() : texts.changed());
            } else if (random.nextInt(60) == 0) {
                tell(random.nextInt(3) == 0 ? texts.changed() : texts.good());
            } else {
                call(random.nextInt(50));
            }
        }
    }

    private void tell(String text) {
        calls.add("text " + text);
        int n = text.length() + (random.nextInt(6) == 0 ? random.nextInt(3) : 0);
        for (int i = 0; i < text.length(); i += 20) {
            int[] five = new int[5];
            for (int k = 0; k < 20; k++) {
                int c = i + k < text.length() ? text.charAt(i + k) : 32;
                five[k / 4] = five[k / 4] << 8 | c & 255;
            }
            due("feed", x.feed(five[0], five[1], five[2], five[3], five[4]), m.feed(five));
        }
        due("pool(" + n + ")", x.pool(n), m.pool(n));
        due("fault(0)", x.fault(0), m.fault(0));
        due("fault(1)", x.fault(1), m.fault(1));
        due("count(7)", x.count(7), m.count(7));
        due("count(8)", x.count(8), m.count(8));
    }

    /** Mostly from 0 to n - 1, seldom just outside or far off. */
    private int about(int n) {
        int kind = random.nextInt(40);
        if (kind == 0) return -1;
        if (kind == 1) return n;
        if (kind == 2) return random.nextInt();
        return random.nextInt(Math.max(1, n));
    }

    private int t() {
        return about(m.count(1));
    }

    private int g() {
        return about(m.count(3));
    }

    private int set() {
        int all = 1 << m.count(3);
        return random.nextInt(3) == 0 ? all - 1 : about(all);
    }

    private long deed() {
        switch (random.nextInt(12)) {
            case 0: return 1000 + random.nextInt(1000);
            case 1: return 1000 + 100 * random.nextInt(Math.max(1, m.count(3))) + 60 + random.nextInt(40);
            case 2: return 2000 + random.nextInt(11);
            case 3: return 3000 + random.nextInt(61);
            case 4: return random.nextInt(4000) - 100;
            case 5: return random.nextInt(12);
            case 6: return random.nextInt(9) == 0 ? random.nextLong() : 2000 + random.nextInt(Math.max(1, m.count(1)));
            default: return random.nextInt(Math.max(1, m.count(3)));
        }
    }

    private void fillDeeds() {
        int tray = about(4);
        int n = random.nextInt(8);
        due("numbers", x.numbers(tray, 3, n), m.numbers(tray, 3, n));
        for (int i = 0; i < n; i++) {
            long v = deed();
            due("write " + v, x.write(tray, i, v), m.write(tray, i, v));
        }
        if (tray >= 0 && tray < 4) judgeAll(tray);
    }

    private void judgeAll(int tray) {
        for (int what = 0; what < 4; what++) due("judge(" + tray + ", " + what + ")", x.judge(tray, what), m.judge(tray, what));
        if (random.nextInt(2) == 0) due("perform(" + tray + ")", x.perform(tray), m.perform(tray));
    }

    /** What some row posts from now on (seen here and there), then asks who it was; dives are undone again. */
    private void fillPosted() {
        int tray = random.nextInt(4);
        int n = 1 + random.nextInt(random.nextInt(4) == 0 ? 12 : 4);
        int only = g();
        due("numbers", x.numbers(tray, 1, n), m.numbers(tray, 1, n));
        due("image(1)", x.image(1), m.image(1));
        boolean alone = random.nextInt(2) == 0;
        int odd = random.nextInt(3);
        for (int i = 0; i < n; i++) {
            int who = alone ? only : g();
            due("dive(" + who + ")", x.dive(who), m.dive(who));
            int kind = random.nextInt(30);
            int v = kind == 0 ? about(100) : kind < 10 * odd ? -1 : m.count(0);
            due("write " + v, x.write(tray, i, v), m.write(tray, i, v));
        }
        due("restore(1)", x.restore(1), m.restore(1));
        due("posted(" + tray + ")", x.posted(tray), m.posted(tray));
        due("suspects(" + tray + ")", x.suspects(tray), m.suspects(tray));
        for (int i = 0; i < n; i++) due("whoPosted(" + tray + ", " + i + ")", x.whoPosted(tray, i), m.whoPosted(tray, i));
        due("bolds(" + tray + ", " + only + ")", x.bolds(tray, only), m.bolds(tray, only));
        due("nexts(" + tray + ", " + only + ")", x.nexts(tray, only), m.nexts(tray, only));
    }

    private void call(int kind) {
        if (kind < 10) pools(kind);
        else if (kind < 20) deeds(kind);
        else if (kind < 32) coming(kind);
        else if (kind < 42) others(kind);
        else trays(kind);
    }

    private void pools(int kind) {
        int t = t();
        int g = g();
        int what = about(5);
        switch (kind) {
            case 0: case 1: due("thing(" + t + ", " + what + ")", x.thing(t, what), m.thing(t, what)); break;
            case 2: case 3: case 4: due("goer(" + g + ", " + what + ")", x.goer(g, what), m.goer(g, what)); break;
            case 5: case 6: due("shows(" + g + ")", x.shows(g), m.shows(g)); break;
            case 7: due("truthful()", x.truthful(), m.truthful()); break;
            default:
                what = about(9);
                due("count(" + what + ")", x.count(what), m.count(what));
                break;
        }
    }

    private void deeds(int kind) {
        int t = t();
        int g = g();
        int n;
        switch (kind) {
            case 10: case 11: case 12: due("dive(" + g + ")", x.dive(g), m.dive(g)); break;
            case 13:
                n = about(100);
                due("say(" + g + ", " + n + ")", x.say(g, n), m.say(g, n));
                break;
            case 14: due("wipe(" + t + ")", x.wipe(t), m.wipe(t)); break;
            case 15:
                n = about(100);
                due("breath(" + g + ", " + n + ")", x.breath(g, n), m.breath(g, n));
                break;
            case 16:
                n = about(10);
                due("bold(" + g + ", " + n + ")", x.bold(g, n), m.bold(g, n));
                break;
            case 17:
                n = about(random.nextInt(3) == 0 ? 11 : 3);
                due("undo(" + n + ")", x.undo(n), m.undo(n));
                break;
            case 18:
                n = about(41);
                int seed = random.nextInt();
                due("summer(" + seed + ", " + n + ")", x.summer(seed, n), m.summer(seed, n));
                break;
            default: fillDeeds(); break;
        }
    }

    private void coming(int kind) {
        int t = t();
        int set = set();
        int n = about(100);
        int i = about(6);
        switch (kind) {
            case 20: due("soonest(" + t + ", " + set + ")", x.soonest(t, set), m.soonest(t, set)); break;
            case 21: due("way(" + t + ", " + set + ", " + i + ")", x.way(t, set, i), m.way(t, set, i)); break;
            case 22: due("tells(" + n + ", " + set + ")", x.tells(n, set), m.tells(n, set)); break;
            case 23: due("tellsBy(" + n + ", " + set + ", " + i + ")", x.tellsBy(n, set, i), m.tellsBy(n, set, i)); break;
            case 24:
                n = about(13);
                due("rows(" + t + ", " + n + ")", x.rows(t, n), m.rows(t, n));
                break;
            case 25: due("needed(" + t + ")", x.needed(t), m.needed(t)); break;
            case 26: due("fewest(" + t + ")", x.fewest(t), m.fewest(t)); break;
            case 27: due("deepest(" + set + ")", x.deepest(set), m.deepest(set)); break;
            case 28: due("shallowest(" + set + ")", x.shallowest(set), m.shallowest(set)); break;
            case 29: due("numbersTold(" + set + ")", x.numbersTold(set), m.numbersTold(set)); break;
            case 30: due("possible(" + set + ")", x.possible(set), m.possible(set)); break;
            default: due("stands(" + set + ")", x.stands(set), m.stands(set)); break;
        }
    }

    private void others(int kind) {
        int t = t();
        int a = set();
        int b = set();
        int n = about(7);
        int what = about(2);
        switch (kind) {
            case 32: case 33: due("forces(" + t + ", " + a + ", " + b + ")", x.forces(t, a, b), m.forces(t, a, b)); break;
            case 34: due("best(" + t + ", " + a + ", " + b + ")", x.best(t, a, b), m.best(t, a, b)); break;
            case 35: due("power(" + a + ", " + b + ")", x.power(a, b), m.power(a, b)); break;
            case 36: case 37: due("chance(" + t + ", " + n + ", " + what + ")", x.chance(t, n, what), m.chance(t, n, what)); break;
            case 38: due("likeliest(" + n + ")", x.likeliest(n), m.likeliest(n)); break;
            default: fillPosted(); break;
        }
    }

    private void trays(int kind) {
        int tray = about(4);
        int sort = about(4);
        int n = about(41);
        int i = about(8);
        int t = t();
        int g = g();
        int set = set();
        long v = random.nextInt(3) == 0 ? random.nextLong() : random.nextInt(400) - 100;
        switch (kind) {
            case 42: due("numbers(" + tray + ", " + sort + ", " + n + ")", x.numbers(tray, sort, n), m.numbers(tray, sort, n)); break;
            case 43: case 44: due("write(" + tray + ", " + i + ", " + v + ")", x.write(tray, i, v), m.write(tray, i, v)); break;
            case 45:
                due("lists(" + tray + ", " + t + ", " + set + ")", x.lists(tray, t, set), m.lists(tray, t, set));
                if (tray >= 0 && tray < 4) judgeAll(tray);
                break;
            case 46: due("image(" + sort + ")", x.image(sort), m.image(sort)); break;
            case 47: due("restore(" + sort + ")", x.restore(sort), m.restore(sort)); break;
            case 48:
                due("posted(" + tray + ")", x.posted(tray), m.posted(tray));
                due("whoPosted(" + tray + ", " + i + ")", x.whoPosted(tray, i), m.whoPosted(tray, i));
                due("suspects(" + tray + ")", x.suspects(tray), m.suspects(tray));
                break;
            default:
                due("bolds(" + tray + ", " + g + ")", x.bolds(tray, g), m.bolds(tray, g));
                due("nexts(" + tray + ", " + g + ")", x.nexts(tray, g), m.nexts(tray, g));
                break;
        }
    }
}
