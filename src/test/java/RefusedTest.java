import java.util.List;

/**
 * Refused calls answer by a code and change nothing: each is done on an object with a past, trays, an image and a tape,
 * and all that can be seen of it then is held against another object with the same past that wasn't asked.
 */
public final class RefusedTest extends Due {
    private static final int LOW = Integer.MIN_VALUE;
    private static final int HIGH = Integer.MAX_VALUE;
    private static List<Long> unasked;

    private RefusedTest() { }

    public static void main(String[] args) {
        due("calls that can be undone", lived().count(6), 10);
        unasked = seen(lived());
        due("an object that lived the same", seen(lived()).equals(unasked) ? 1 : 0, 1);
        pools();
        deeds();
        comings();
        howDeep();
        posted();
        forcing();
        chances();
        trays();
        images();
        fullTape();
        readButFaulty();
        end("RefusedTest");
    }

    /** Four things, three goers, as many calls to undo as there can be, trays 0 to 2 (2 too full), image 0, a fault, forty bytes. */
    private static DepthBoard lived() {
        DepthBoard x = told("pool 4;thing at 5 guard 3;thing at 10 needs 0;thing at 8 there guard 2;thing at 99;"
            + "goer breath 6 bold 1;goer breath 12 bold 5 odds 2;goer breath 3 bold 9;tells : if reach > board then reach + 1 else board + 2 end;");
        for (int i = 0; i < 5; i++) x.breath(1, 20 + i);
        x.dive(0);
        x.image(0);
        x.breath(2, 7);
        x.bold(2, 8);
        x.say(1, 30);
        x.wipe(2);
        tray(x, 0, 1, 1, 3012, 1099, 2000);
        x.perform(0);
        x.summer(1, 3);
        tray(x, 1, 0, -1, -1, -1);
        tray(x, 2, 3, 0, 1, 2, 0, 1, 2, 0, 1, 2, 0, 1, 2, 3);
        tell(x, "pool 7;thing at 100;");
        load(x, "pool 7;goer breath 8;tells : 9;");
        return x;
    }

    private static void refused(String call, int code, Call asked) {
        DepthBoard x = lived();
        due(call, asked.on(x), code);
        due(call + " again", asked.on(x), code);
        due(call + " changes nothing", seen(x).equals(unasked) ? 1 : 0, 1);
    }

    private static void pools() {
        about("refused: the pool");
        for (int n : new int[] {-1, 41, 900, LOW, HIGH}) refused("pool(" + n + ")", -3, x -> x.pool(n));
        for (int t : new int[] {-1, 4, LOW, HIGH}) refused("thing(" + t + ", 0)", -2, x -> x.thing(t, 0));
        for (int what : new int[] {-1, 4, LOW, HIGH}) refused("thing(0, " + what + ")", -2, x -> x.thing(0, what));
        for (int g : new int[] {-1, 3, LOW, HIGH}) {
            for (int what = 0; what < 5; what++) {
                int asked = what;
                refused("goer(" + g + ", " + what + ")", -2, x -> x.goer(g, asked));
            }
            refused("shows(" + g + ")", -2, x -> x.shows(g));
        }
        for (int what : new int[] {-1, 5, LOW, HIGH}) refused("goer(0, " + what + ")", -2, x -> x.goer(0, what));
        for (int what : new int[] {-1, 2, LOW, HIGH}) refused("fault(" + what + ")", -1, x -> x.fault(what));
        for (int what : new int[] {-1, 9, LOW, HIGH}) refused("count(" + what + ")", -1, x -> x.count(what));
    }

    private static void deeds() {
        about("refused: deeds");
        for (int g : new int[] {-1, 3, LOW, HIGH}) {
            refused("dive(" + g + ")", -11, x -> x.dive(g));
            refused("say(" + g + ", 50)", -11, x -> x.say(g, 50));
            refused("say(" + g + ", 100)", -11, x -> x.say(g, 100));
            refused("breath(" + g + ", 5)", -11, x -> x.breath(g, 5));
            refused("bold(" + g + ", 5)", -11, x -> x.bold(g, 5));
        }
        for (int n : new int[] {-1, 100, LOW, HIGH}) {
            refused("say(1, " + n + ")", -11, x -> x.say(1, n));
            refused("breath(1, " + n + ")", -11, x -> x.breath(1, n));
        }
        for (int n : new int[] {-1, 10, LOW, HIGH}) refused("bold(1, " + n + ")", -11, x -> x.bold(1, n));
        refused("say(1, less than its reach)", -12, x -> x.say(1, x.goer(1, 3) - 1));
        refused("say(1, 0)", -12, x -> x.say(1, 0));
        for (int t : new int[] {-1, 4, LOW, HIGH}) refused("wipe(" + t + ")", -11, x -> x.wipe(t));
        refused("wipe(3), not there", -12, x -> x.wipe(3));
        for (int n : new int[] {0, -1, 11, LOW, HIGH}) refused("undo(" + n + ")", -3, x -> x.undo(n));
        refused("perform of nothing that can be", 0, x -> unfit(x));
        for (int n : new int[] {0, -1, 41, LOW, HIGH}) refused("summer(9, " + n + ")", -3, x -> x.summer(9, n));
        for (int tray : new int[] {-1, 4, LOW, HIGH}) {
            refused("judge(" + tray + ", 0)", -2, x -> x.judge(tray, 0));
            refused("perform(" + tray + ")", -2, x -> x.perform(tray));
        }
        for (int what : new int[] {-1, 4, LOW, HIGH}) {
            refused("judge(0, " + what + ")", -2, x -> x.judge(0, what));
            refused("judge(3, " + what + ")", -2, x -> x.judge(3, what));
        }
        refused("judge(3, 0)", -6, x -> x.judge(3, 0));
        refused("perform(3)", -6, x -> x.perform(3));
    }

    /** A tray that begins with what can't be: none is done, so that nothing is forgotten for it. */
    private static int unfit(DepthBoard x) {
        x.write(1, 0, 77);
        int done = x.perform(1);
        x.write(1, 0, -1);
        return done;
    }

    private static void comings() {
        about("refused: coming");
        for (int t : new int[] {-1, 4, LOW, HIGH}) {
            refused("soonest(" + t + ", 8)", -2, x -> x.soonest(t, 8));
            refused("way(" + t + ", 8, -1)", -2, x -> x.way(t, 8, -1));
            refused("rows(" + t + ", 13)", -2, x -> x.rows(t, 13));
            refused("needed(" + t + ")", -2, x -> x.needed(t));
            refused("fewest(" + t + ")", -2, x -> x.fewest(t));
        }
        for (int set : new int[] {8, 15, -1, LOW, HIGH}) {
            refused("soonest(0, " + set + ")", -3, x -> x.soonest(0, set));
            refused("way(0, " + set + ", 0)", -3, x -> x.way(0, set, 0));
            refused("tells(5, " + set + ")", -3, x -> x.tells(5, set));
            refused("tellsBy(5, " + set + ", 0)", -3, x -> x.tellsBy(5, set, 0));
        }
        for (int n : new int[] {-1, 100, LOW, HIGH}) {
            refused("tells(" + n + ", 7)", -3, x -> x.tells(n, 7));
            refused("tellsBy(" + n + ", 7, 0)", -3, x -> x.tellsBy(n, 7, 0));
        }
        for (int i : new int[] {-1, LOW}) {
            refused("way(0, 7, " + i + ")", -3, x -> x.way(0, 7, i));
            refused("way(3, 7, " + i + "), ahead of NONE", -3, x -> x.way(3, 7, i));
            refused("tellsBy(5, 7, " + i + ")", -3, x -> x.tellsBy(5, 7, i));
        }
        for (int n : new int[] {-1, 13, LOW, HIGH}) refused("rows(0, " + n + ")", -3, x -> x.rows(0, n));
    }

    private static void howDeep() {
        about("refused: how deep");
        for (int set : new int[] {8, 15, -1, LOW, HIGH}) {
            refused("deepest(" + set + ")", -3, x -> x.deepest(set));
            refused("shallowest(" + set + ")", -3, x -> x.shallowest(set));
            refused("numbersTold(" + set + ")", -3, x -> x.numbersTold(set));
            refused("possible(" + set + ")", -3, x -> x.possible(set));
            refused("stands(" + set + ")", -3, x -> x.stands(set));
        }
    }

    private static void posted() {
        about("refused: posted");
        for (int tray : new int[] {-1, 4, LOW, HIGH}) {
            refused("posted(" + tray + ")", -2, x -> x.posted(tray));
            refused("whoPosted(" + tray + ", -1)", -2, x -> x.whoPosted(tray, -1));
            refused("suspects(" + tray + ")", -2, x -> x.suspects(tray));
            refused("bolds(" + tray + ", 0)", -2, x -> x.bolds(tray, 0));
            refused("nexts(" + tray + ", 0)", -2, x -> x.nexts(tray, 0));
        }
        int[] trays = {3, 2, 0};
        int[] codes = {-6, -4, -3};
        for (int i = 0; i < 3; i++) {
            int tray = trays[i];
            refused("posted(" + tray + ")", codes[i], x -> x.posted(tray));
            refused("whoPosted(" + tray + ", -1)", codes[i], x -> x.whoPosted(tray, -1));
            refused("suspects(" + tray + ")", codes[i], x -> x.suspects(tray));
            refused("bolds(" + tray + ", 2)", codes[i], x -> x.bolds(tray, 2));
            refused("nexts(" + tray + ", 2)", codes[i], x -> x.nexts(tray, 2));
            for (int g : new int[] {-1, 3, LOW, HIGH}) {
                refused("bolds(" + tray + ", " + g + ")", -2, x -> x.bolds(tray, g));
                refused("nexts(" + tray + ", " + g + ")", -2, x -> x.nexts(tray, g));
            }
        }
        for (int i : new int[] {-1, LOW}) refused("whoPosted(1, " + i + ")", -3, x -> x.whoPosted(1, i));
    }

    private static void forcing() {
        about("refused: forcing");
        for (int t : new int[] {-1, 4, LOW, HIGH}) {
            refused("forces(" + t + ", 8, 8)", -2, x -> x.forces(t, 8, 8));
            refused("best(" + t + ", 8, 8)", -2, x -> x.best(t, 8, 8));
        }
        for (int set : new int[] {8, 15, -1, LOW, HIGH}) {
            refused("forces(0, " + set + ", 7)", -3, x -> x.forces(0, set, 7));
            refused("forces(0, 7, " + set + ")", -3, x -> x.forces(0, 7, set));
            refused("best(0, " + set + ", 7)", -3, x -> x.best(0, set, 7));
            refused("best(3, 7, " + set + "), ahead of NONE", -3, x -> x.best(3, 7, set));
            refused("power(" + set + ", 7)", -3, x -> x.power(set, 7));
            refused("power(7, " + set + ")", -3, x -> x.power(7, set));
        }
    }

    private static void chances() {
        about("refused: chances");
        for (int t : new int[] {-1, 4, LOW, HIGH}) refused("chance(" + t + ", 7, 2)", -2, x -> x.chance(t, 7, 2));
        for (int what : new int[] {-1, 2, LOW, HIGH}) refused("chance(0, 7, " + what + ")", -2, x -> x.chance(0, 7, what));
        for (int n : new int[] {-1, 7, LOW, HIGH}) {
            refused("chance(0, " + n + ", 0)", -3, x -> x.chance(0, n, 0));
            refused("likeliest(" + n + ")", -3, x -> x.likeliest(n));
        }
    }

    private static void trays() {
        about("refused: trays");
        for (int tray : new int[] {-1, 4, LOW, HIGH}) {
            refused("numbers(" + tray + ", 0, 41)", -2, x -> x.numbers(tray, 0, 41));
            refused("write(" + tray + ", 0, 5)", -2, x -> x.write(tray, 0, 5));
            refused("lists(" + tray + ", 0, 8)", -2, x -> x.lists(tray, 0, 8));
        }
        for (int sort : new int[] {-1, 4, LOW, HIGH}) refused("numbers(0, " + sort + ", 41)", -2, x -> x.numbers(0, sort, 41));
        for (int n : new int[] {-1, 41, LOW, HIGH}) {
            refused("numbers(0, 3, " + n + ")", -3, x -> x.numbers(0, 3, n));
            refused("numbers(3, 3, " + n + ")", -3, x -> x.numbers(3, 3, n));
        }
        refused("write(3, -1, 5)", -6, x -> x.write(3, -1, 5));
        for (int i : new int[] {-1, 4, 40, LOW, HIGH}) refused("write(0, " + i + ", 5)", -7, x -> x.write(0, i, 5));
        for (int t : new int[] {-1, 4, LOW, HIGH}) {
            refused("lists(0, " + t + ", 8)", -2, x -> x.lists(0, t, 8));
            refused("lists(3, " + t + ", 8)", -2, x -> x.lists(3, t, 8));
        }
        refused("lists(3, 0, 8)", -6, x -> x.lists(3, 0, 8));
        for (int set : new int[] {8, -1, LOW, HIGH}) refused("lists(0, 3, " + set + ")", -3, x -> x.lists(0, 3, set));
        refused("lists(0, 3, 7), it can't be", -5, x -> x.lists(0, 3, 7));
    }

    private static void images() {
        about("refused: images");
        for (int i : new int[] {-1, 2, LOW, HIGH}) {
            refused("image(" + i + ")", -2, x -> x.image(i));
            refused("restore(" + i + ")", -2, x -> x.restore(i));
        }
        refused("restore(1), none was made", -5, x -> x.restore(1));
    }

    private static DepthBoard full() {
        DepthBoard x = lived();
        for (int i = 0; i < 43; i++) x.feed(0x20202020, 0x20202020, 0x20202020, 0x20202020, 0x20202020);
        return x;
    }

    private static void fullTape() {
        about("refused: a full tape");
        DepthBoard x = full();
        due("full", x.count(7), 900);
        due("feed", x.feed(0x3f3f3f3f, 0x3f3f3f3f, 0x3f3f3f3f, 0x3f3f3f3f, 0x3f3f3f3f), -5);
        due("it changes nothing", seen(x).equals(seen(full())) ? 1 : 0, 1);
    }

    /** With a fault all stays but the tape and the latest fault. */
    private static void readButFaulty() {
        about("refused: a text with a FAULT");
        String[] faulty = {"?", "pool 1", "pool 100;", "pool 1;" + "goer breath 1;".repeat(7)};
        for (int kind = 1; kind <= 4; kind++) {
            DepthBoard x = lived();
            DepthBoard y = lived();
            x.pool(0);
            y.pool(0);
            due("kind " + kind, tell(x, faulty[kind - 1]), -30 - kind);
            due("its fault", x.fault(0), kind);
            x.pool(0);
            due("all else stays", seen(x).equals(seen(y)) ? 1 : 0, 1);
        }
    }
}
