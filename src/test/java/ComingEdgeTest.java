/** Promises 18 to 39: coming, how deep, posted, forcing, chances; each sentence that names an edge. */
public final class ComingEdgeTest extends Due {
    /** Each goer posts 1 more than the board told, none of them gets down but from 90 on. */
    private static final String LONG = "pool 0;thing at 50;goer breath 1;goer breath 1;reaches : if board > 89 then 50 else 0 end;";
    /** Goer 0 opens at 0, goer 1 at 4, goer 2 at 4, too; then everybody gets down. */
    private static final String LOCKS = "pool 0;thing at 5;thing at 90;thing at 5 there;goer breath 1;goer breath 1;goer breath 1;"
        + "reaches : if board = 9 then 5 else 0 end;"
        + "tells : if who = 0 and board = 0 then 4 else if who > 0 and board = 4 then 9 else board end end;";

    private ComingEdgeTest() { }

    public static void main(String[] args) {
        sets();
        thingsThatArent();
        soonest();
        way();
        tells();
        tellsBy();
        ofLikeOnesTheFirst();
        rows();
        needed();
        fewest();
        deepestAndShallowest();
        numbersTold();
        possible();
        standsTogether();
        postedNumbers();
        postedRefused();
        posted();
        whoPosted();
        suspects();
        bolds();
        nexts();
        forces();
        sidesWithoutGoers();
        best();
        power();
        chance();
        chanceWithoutOdds();
        likeliest();
        asMuchAsCanBe();
        nothingOldIsKept();
        nothingIsDone();
        end("ComingEdgeTest");
    }

    private static String goers(int n) {
        return "pool 3;thing at 9;" + "goer breath 1;".repeat(n);
    }

    private static void sets() {
        about("-3: others are in the set");
        for (int n = 0; n <= 6; n++) {
            DepthBoard x = told(goers(n));
            int all = (1 << n) - 1;
            for (int set : new int[] {0, all, all >> 1}) {
                due("soonest by " + set, x.soonest(0, set), -1);
                due("way by " + set, x.way(0, set, 0), -1);
                due("tells by " + set, x.tells(3, set), 0);
                due("tellsBy by " + set, x.tellsBy(3, set, 0), -1);
                due("deepest by " + set, x.deepest(set), set == 0 ? 3 : 99);
                due("shallowest by " + set, x.shallowest(set), 3);
                due("numbersTold by " + set, x.numbersTold(set), set == 0 ? 1 : 97);
                due("possible by " + set, x.possible(set), 0);
                due("stands by " + set, x.stands(set), set == 0 ? 1 : 97);
                due("forces by " + set, x.forces(0, set, all), -1);
                due("best by " + set, x.best(0, set, all), -1);
                due("power by " + set, x.power(all, set), 0);
            }
            x.numbers(0, 0, 4);
            for (int set : new int[] {all + 1, all + 1 + all, -1, -1 - all, 64, 1 << 30, Integer.MIN_VALUE, Integer.MAX_VALUE}) {
                due("soonest by " + set, x.soonest(0, set), -3);
                due("way by " + set, x.way(0, set, 0), -3);
                due("tells by " + set, x.tells(3, set), -3);
                due("tellsBy by " + set, x.tellsBy(3, set, 0), -3);
                due("deepest by " + set, x.deepest(set), -3);
                due("shallowest by " + set, x.shallowest(set), -3);
                due("numbersTold by " + set, x.numbersTold(set), -3);
                due("possible by " + set, x.possible(set), -3);
                due("stands by " + set, x.stands(set), -3);
                due("forces by " + set, x.forces(0, set, 0), -3);
                due("forces against " + set, x.forces(0, 0, set), -3);
                due("best by " + set, x.best(0, set, 0), -3);
                due("best against " + set, x.best(0, 0, set), -3);
                due("power by " + set, x.power(set, 0), -3);
                due("power against " + set, x.power(0, set), -3);
                due("lists by " + set, x.lists(0, 0, set), -3);
            }
        }
    }

    private static void thingsThatArent() {
        about("-2: the THING, ahead of all others");
        for (int n = 0; n <= 6; n++) {
            DepthBoard x = told("pool 3;goer breath 1;" + "thing at 9;".repeat(n));
            x.numbers(0, 0, 4);
            for (int t : new int[] {n, n + 1, 6, -1, Integer.MIN_VALUE, Integer.MAX_VALUE}) {
                due("soonest " + t, x.soonest(t, 2), -2);
                due("way " + t, x.way(t, 2, -1), -2);
                due("rows " + t, x.rows(t, 13), -2);
                due("needed " + t, x.needed(t), -2);
                due("fewest " + t, x.fewest(t), -2);
                due("forces " + t, x.forces(t, 2, 2), -2);
                due("best " + t, x.best(t, 2, 2), -2);
                due("chance " + t, x.chance(t, 7, 2), -2);
                due("lists " + t, x.lists(0, t, 2), -2);
            }
            if (n == 0) continue;
            due("the last one", x.soonest(n - 1, 1), -1);
            due("the last one", x.rows(n - 1, 12), 0);
            due("the last one", x.needed(n - 1), 0);
            due("the last one", x.fewest(n - 1), -1);
            due("the last one", x.forces(n - 1, 1, 1), -1);
            due("the last one", x.chance(n - 1, 6, 1), 1);
        }
    }

    private static void soonest() {
        about("soonest: how many DIVES; NONE: it can't be");
        DepthBoard x = told(LONG);
        due("91 dives", x.soonest(0, 3), 91);
        due("by one alone", x.soonest(0, 2), 91);
        due("by nobody", x.soonest(0, 0), -1);
        x.say(0, 90);
        due("one dive", x.soonest(0, 1), 1);
        x.dive(0);
        due("it is there: none", x.soonest(0, 3), 0);
        due("it is there: none by nobody", x.soonest(0, 0), 0);
        x.wipe(0);
        due("it is wiped", x.soonest(0, 0), -1);
        due("it comes again", x.soonest(0, 1), 1);
    }

    private static void way() {
        about("way: the i-th GOER; NONE: not so many, it can't be; -3: the set, i is below 0");
        DepthBoard x = told(LONG);
        due("the first", x.way(0, 2, 0), 1);
        due("the last", x.way(0, 2, 90), 1);
        due("one more", x.way(0, 2, 91), -1);
        due("far more", x.way(0, 2, Integer.MAX_VALUE), -1);
        due("it can't be", x.way(0, 0, 0), -1);
        due("i is below 0", x.way(0, 2, -1), -3);
        due("i is far below 0", x.way(0, 2, Integer.MIN_VALUE), -3);
        due("i is below 0, ahead of NONE", x.way(0, 0, -1), -3);
        x.say(0, 90);
        x.dive(0);
        due("it is there", x.way(0, 3, 0), -1);
        due("it is there, i is below 0", x.way(0, 3, -1), -3);
    }

    private static void tells() {
        about("tells: a number (0 to 99); NONE: it can't be; -3: the number, the set");
        DepthBoard x = told("pool 0;goer breath 1;goer breath 1;tells : if who = 0 then board + 1 else board end;");
        due("0, as it tells", x.tells(0, 1), 0);
        due("0 by nobody", x.tells(0, 0), 0);
        due("1", x.tells(1, 1), 1);
        due("99", x.tells(99, 1), 99);
        due("99 by goer 1", x.tells(99, 2), -1);
        due("1 by nobody", x.tells(1, 0), -1);
        for (int n : new int[] {-1, 100, Integer.MIN_VALUE, Integer.MAX_VALUE}) due("tells(" + n + ", 1)", x.tells(n, 1), -3);
        x.say(0, 99);
        due("99, as it tells", x.tells(99, 0), 0);
        due("0 no more", x.tells(0, 3), -1);
    }

    private static void tellsBy() {
        about("tellsBy: the i-th GOER; NONE: not so many, it can't be; -3: the number, the set, i is below 0");
        DepthBoard x = told("pool 0;goer breath 1;goer breath 1;tells : if who = 1 then board + 1 else board end;");
        due("the first", x.tellsBy(99, 3, 0), 1);
        due("the last", x.tellsBy(99, 3, 98), 1);
        due("one more", x.tellsBy(99, 3, 99), -1);
        due("far more", x.tellsBy(99, 3, Integer.MAX_VALUE), -1);
        due("as it tells", x.tellsBy(0, 3, 0), -1);
        due("it can't be", x.tellsBy(99, 1, 0), -1);
        due("i is below 0", x.tellsBy(99, 3, -1), -3);
        due("i is below 0, ahead of NONE", x.tellsBy(99, 1, -1), -3);
        due("i is far below 0", x.tellsBy(99, 3, Integer.MIN_VALUE), -3);
        for (int n : new int[] {-1, 100, Integer.MIN_VALUE, Integer.MAX_VALUE}) due("tellsBy(" + n + ", 3, 0)", x.tellsBy(n, 3, 0), -3);
    }

    private static void ofLikeOnesTheFirst() {
        about("of like ones the first, GOER by GOER");
        // Behind the first dive the board tells whom it was; all but goer 0 may go on to 7, goer 0 needs one dive more.
        String text = "pool 9;thing at 5;" + "goer breath 1;".repeat(6)
            + "reaches : if board = 7 then 5 else 0 end;"
            + "tells : if board = 9 then who else if board = 7 or board = 0 then 8 else if who + board = 6 then 7 else board end end end;";
        DepthBoard x = told(text);
        due("three dives", x.soonest(0, 63), 3);
        due("1 5 0", 100 * x.way(0, 63, 0) + 10 * x.way(0, 63, 1) + x.way(0, 63, 2), 150);
        due("tells 7: 1 5", 10 * x.tellsBy(7, 63, 0) + x.tellsBy(7, 63, 1), 15);
        due("without goer 1: 2 4 0", 100 * x.way(0, 61, 0) + 10 * x.way(0, 61, 1) + x.way(0, 61, 2), 240);
        due("by 4, 2 alone: 2 4 2", 100 * x.way(0, 20, 0) + 10 * x.way(0, 20, 1) + x.way(0, 20, 2), 242);
        due("by 5, 3: 3 3 3", 100 * x.way(0, 40, 0) + 10 * x.way(0, 40, 1) + x.way(0, 40, 2), 333);
        due("by 0, 4", x.soonest(0, 17), -1);
    }

    private static void rows() {
        about("rows: just n DIVES (0 to 12) of all GOERS; -2; -3");
        DepthBoard x = told("pool 0;thing at 5;thing at 9 there;thing at 99;goer breath 5;" + "goer breath 1;".repeat(5));
        for (int n : new int[] {-1, 13, Integer.MIN_VALUE, Integer.MAX_VALUE}) due("rows(0, " + n + ")", x.rows(0, n), -3);
        long all = 1;
        long without = 1;
        for (int n = 0; n <= 12; n++) {
            due("there: all of " + n, x.rows(1, n), all);
            due("those with goer 0 of " + n, x.rows(0, n), all - without);
            due("never of " + n, x.rows(2, n), 0);
            all *= 6;
            without *= 5;
        }
        DepthBoard none = told("pool 0;thing at 5;thing at 5 there;");
        due("nobody, no dives", none.rows(1, 0), 1);
        due("nobody, no dives, not there", none.rows(0, 0), 0);
        due("nobody, a dive", none.rows(1, 1), 0);
        due("nobody, 12 dives", none.rows(1, 12), 0);
        due("one alone", told("pool 0;thing at 5;goer breath 5;").rows(0, 12), 1);
    }

    private static void needed() {
        about("needed: 0: it can't anyhow, it is");
        DepthBoard x = told(LOCKS);
        due("goer 0", x.needed(0), 1);
        due("it can't anyhow", x.needed(1), 0);
        due("it is", x.needed(2), 0);
        due("without goers", told("pool 0;thing at 0;").needed(0), 0);
        due("one alone", told("pool 0;thing at 0;goer breath 1;").needed(0), 1);
        due("either of two", told("pool 0;thing at 0;goer breath 1;goer breath 1;").needed(0), 0);
        String all = "pool 0;thing at 9;" + "goer breath 1;".repeat(6)
            + "reaches : if board = 6 then 9 else 0 end;tells : if who = board then board + 1 else board end;";
        due("all six", told(all).needed(0), 63);
        DepthBoard y = told(all);
        y.dive(0);
        due("goer 0 was down already", y.needed(0), 62);
    }

    private static void fewest() {
        about("fewest: of like ones the least set; NONE: it can't");
        DepthBoard x = told(LOCKS);
        due("0 and 1", x.fewest(0), 3);
        due("it can't", x.fewest(1), -1);
        due("it is: nobody", x.fewest(2), 0);
        due("without goers", told("pool 0;thing at 0;").fewest(0), -1);
        due("without goers, it is", told("pool 0;thing at 0 there;").fewest(0), 0);
        due("the last one of six", told("pool 0;thing at 5;" + "goer breath 1;".repeat(5) + "goer breath 5;").fewest(0), 32);
        String all = "pool 0;thing at 9;" + "goer breath 1;".repeat(6)
            + "reaches : if board = 6 then 9 else 0 end;tells : if who = board then board + 1 else board end;";
        due("all six", told(all).fewest(0), 63);
        // Goers 4 and 5, or 0, 1 and 2: the fewer ones, though their bits are more.
        DepthBoard y = told("pool 0;thing at 9;" + "goer breath 1;".repeat(6) + "reaches : if board = 3 then 9 else 0 end;"
            + "tells : if board = 0 and who = 4 then 9 else if board = 9 and who = 5 then 3 else if who < 3 and who = board then board + 1 else board end end end;");
        due("two ahead of three", y.fewest(0), 48);
    }

    private static void deepestAndShallowest() {
        about("the greatest, the least number the BOARD can tell (as it tells now, too)");
        DepthBoard x = told("pool 50;goer breath 1;goer breath 1;goer breath 1;"
            + "tells : if who = 0 then board + 7 else if who = 1 then board - 7 else board end end;");
        due("deepest by nobody", x.deepest(0), 50);
        due("shallowest by nobody", x.shallowest(0), 50);
        due("deepest up", x.deepest(1), 99);
        due("shallowest up", x.shallowest(1), 50);
        due("deepest down", x.deepest(2), 50);
        due("shallowest down", x.shallowest(2), 0);
        due("deepest, it stays", x.deepest(4), 50);
        due("shallowest, it stays", x.shallowest(4), 50);
        due("deepest of all", x.deepest(7), 99);
        due("shallowest of all", x.shallowest(7), 0);
        DepthBoard y = told("pool 50;goer breath 1;tells : if board = 50 then 60 else 55 end;");
        due("deepest on the way", y.deepest(1), 60);
        DepthBoard z = told("pool 50;goer breath 1;tells : if board = 50 then 40 else 45 end;");
        due("shallowest on the way", z.shallowest(1), 40);
        due("no pool, deepest", new DepthBoard().deepest(0), 0);
        due("no pool, shallowest", new DepthBoard().shallowest(0), 0);
    }

    private static void numbersTold() {
        about("how many numbers it can tell");
        DepthBoard x = told("pool 0;goer breath 1;goer breath 1;goer breath 1;tells : if who = 0 then board + 1 else if who = 1 then 99 - board else board end end;");
        due("nobody", x.numbersTold(0), 1);
        due("all 100", x.numbersTold(1), 100);
        due("0 and 99", x.numbersTold(2), 2);
        due("one", x.numbersTold(4), 1);
        x.say(0, 49);
        due("49 to 99", x.numbersTold(1), 51);
        due("49 and 50", x.numbersTold(2), 2);
        x.say(0, 99);
        due("99", x.numbersTold(1), 1);
    }

    private static void possible() {
        about("THINGS that can come to be THERE (those that are, too)");
        DepthBoard x = told("pool 0;thing at 1;thing at 2;thing at 3 there;thing at 3 needs 0;thing at 1 needs 3;thing at 4;goer breath 1;goer breath 3;");
        due("nobody", x.possible(0), 4);
        due("goer 0", x.possible(1), 4 + 1);
        due("goer 1", x.possible(2), 31);
        due("both", x.possible(3), 31);
        due("all six", told("pool 0;" + "thing at 1;".repeat(6) + "goer breath 1;").possible(1), 63);
        due("no things", told("pool 0;goer breath 1;").possible(1), 0);
        x.wipe(2);
        due("wiped: nobody", x.possible(0), 0);
        due("wiped: it comes again", x.possible(2), 31);
    }

    private static void standsTogether() {
        about("in how many ways BOARD and THINGS can be together");
        DepthBoard x = told("pool 0;thing at 5;goer breath 5;goer breath 1;tells : if who = 1 then board + 1 else board end;");
        due("nobody", x.stands(0), 1);
        due("with it or without", x.stands(1), 2);
        due("boards alone", x.stands(2), 100);
        due("boards with it or without", x.stands(3), 200);
        // Six things one behind the other, each at any board.
        StringBuilder chain = new StringBuilder("pool 0;thing at 1;");
        for (int t = 1; t < 6; t++) chain.append("thing at 1 needs ").append(t - 1).append(";");
        DepthBoard y = told(chain + "goer breath 1;goer breath 0;tells : if who = 1 then board + 1 else board end;");
        due("seven hundred", y.stands(3), 700);
        due("the chain alone", y.stands(1), 7);
        due("soonest of the last", y.soonest(5, 3), 6);
        due("no pool", new DepthBoard().stands(0), 1);
    }

    private static final String POSTS = "pool 0;goer breath 1;goer breath 2;goer breath 3;tells : if who = 2 then board + 99 else board + who end;";

    private static void postedNumbers() {
        about("POSTED in a TRAY (1 to 12 numbers); -4: not 1 to 12 numbers; -3: one is not 0 to 99 nor NONE");
        DepthBoard x = told(POSTS);
        for (int n : new int[] {0, 13, 14, 40}) {
            x.numbers(0, 3, n);
            if (n > 0) x.write(0, 0, 100);
            due(n + " numbers, posted", x.posted(0), -4);
            due(n + " numbers, whoPosted", x.whoPosted(0, -1), -4);
            due(n + " numbers, suspects", x.suspects(0), -4);
            due(n + " numbers, bolds", x.bolds(0, 0), -4);
            due(n + " numbers, nexts", x.nexts(0, 0), -4);
        }
        for (int n : new int[] {1, 12}) {
            x.numbers(0, 3, n);
            due(n + " numbers, posted", x.posted(0), 1);
            for (long v : new long[] {-2, 100, Long.MIN_VALUE, Long.MAX_VALUE, 1L << 32, -1L - (1L << 32)}) {
                x.write(0, n - 1, v);
                due(v + ", posted", x.posted(0), -3);
                due(v + ", whoPosted", x.whoPosted(0, 0), -3);
                due(v + ", suspects", x.suspects(0), -3);
                due(v + ", bolds", x.bolds(0, 0), -3);
                due(v + ", nexts", x.nexts(0, 0), -3);
            }
            x.write(0, n - 1, -1);
            due("NONE, posted", x.posted(0), 3);
            x.write(0, n - 1, 99);
            due("99, posted", x.posted(0), 1);
            due("99, suspects", x.suspects(0), n == 1 ? 4 : 5);
        }
        x.numbers(0, 0, 1);
        due("255 in 8 bits is NONE", x.write(0, 0, 255), -1);
        due("posted", x.posted(0), 3);
    }

    private static void postedRefused() {
        about("posted: -2: the TRAY; -6");
        DepthBoard x = told(POSTS);
        for (int tray : new int[] {-1, 4, Integer.MIN_VALUE, Integer.MAX_VALUE}) {
            due("posted", x.posted(tray), -2);
            due("whoPosted", x.whoPosted(tray, -1), -2);
            due("suspects", x.suspects(tray), -2);
            due("bolds", x.bolds(tray, 0), -2);
            due("nexts", x.nexts(tray, 0), -2);
        }
        for (int tray = 0; tray < 4; tray++) {
            due("posted", x.posted(tray), -6);
            due("whoPosted", x.whoPosted(tray, -1), -6);
            due("suspects", x.suspects(tray), -6);
            due("bolds", x.bolds(tray, 0), -6);
            due("nexts", x.nexts(tray, 0), -6);
        }
        about("bolds, nexts: -2: the TRAY, the GOER, ahead of all others");
        for (int g : new int[] {-1, 3, 6, Integer.MIN_VALUE, Integer.MAX_VALUE}) {
            due("missing, bolds", x.bolds(0, g), -2);
            due("missing, nexts", x.nexts(0, g), -2);
            x.numbers(1, 0, 13);
            due("13, bolds", x.bolds(1, g), -2);
            due("13, nexts", x.nexts(1, g), -2);
        }
    }

    private static void posted() {
        about("posted: how many ROWS");
        DepthBoard x = told(POSTS);
        tray(x, 0, 0, 0, 0, 0);
        due("0 0 0", x.posted(0), 1);
        tray(x, 0, 0, 1, -1, 2);
        due("1, unseen, 2: 1 0 1, 1 1 0", x.posted(0), 2);
        tray(x, 0, 0, 99, 99, 99);
        due("99 all along: 2 and any", x.posted(0), 9);
        tray(x, 0, 0, 2);
        due("none", x.posted(0), 0);
        tray(x, 0, 0, -1, -1, -1, -1, -1, -1, -1, -1, -1, -1, -1, -1);
        due("twelve unseen", x.posted(0), 531441);
        DepthBoard y = told("pool 0;" + "goer breath 1;".repeat(6));
        tray(y, 0, 0, -1, -1, -1, -1, -1, -1, -1, -1, -1, -1, -1, -1);
        due("twelve unseen of six", y.posted(0), 2176782336L);
        tray(y, 0, 0, 1, 2, 3, 4, 5, 6, 7, 8, 9, 10, 11, 12);
        due("twelve seen of six", y.posted(0), 2176782336L);
        tray(y, 0, 0, 1, 2, 3, 4, 5, 6, 7, 8, 9, 10, 11, 11);
        due("the twelfth isn't so", y.posted(0), 0);
        DepthBoard none = told("pool 0;");
        tray(none, 0, 0, -1);
        due("without goers", none.posted(0), 0);
    }

    private static void whoPosted() {
        about("whoPosted: the i-th GOER of the first ROW; NONE: not so many, there are none; -3: also i is below 0");
        DepthBoard x = told(POSTS);
        tray(x, 0, 0, -1, 1, 99);
        due("the first", x.whoPosted(0, 0), 0);
        due("the second", x.whoPosted(0, 1), 1);
        due("the last", x.whoPosted(0, 2), 2);
        due("one more", x.whoPosted(0, 3), -1);
        due("far more", x.whoPosted(0, Integer.MAX_VALUE), -1);
        due("i is below 0", x.whoPosted(0, -1), -3);
        due("i is far below 0", x.whoPosted(0, Integer.MIN_VALUE), -3);
        tray(x, 0, 0, 2, 3);
        due("there are none", x.whoPosted(0, 0), -1);
        due("there are none", x.whoPosted(0, 1), -1);
        due("there are none, i is below 0", x.whoPosted(0, -1), -3);
        tray(x, 0, 0, -1, -1, 99, 98);
        for (int i = 0; i < 4; i++) due("the last one isn't so", x.whoPosted(0, i), -1);
        tray(x, 0, 0, 0, 0, 0, 0, 0, 0, 0, 0, 0, 0, 0, 99);
        due("the eleventh of 12", x.whoPosted(0, 10), 0);
        due("the twelfth of 12", x.whoPosted(0, 11), 2);
        due("the thirteenth of 12", x.whoPosted(0, 12), -1);
        // First goer 0 fits what is seen, but nobody fits behind it.
        DepthBoard y = told("pool 0;thing at 1;goer breath 0;goer breath 1;tells : if things > 0 then 5 else 3 end;");
        tray(y, 0, 0, 3, 5);
        due("who showed it", y.whoPosted(0, 0), 1);
        due("then anybody", y.whoPosted(0, 1), 0);
        due("suspects", y.suspects(0), 3);
        due("rows", y.posted(0), 2);
    }

    private static void suspects() {
        about("suspects: GOERS who went in some of these ROWS");
        DepthBoard x = told(POSTS);
        tray(x, 0, 0, 0);
        due("goer 0", x.suspects(0), 1);
        tray(x, 0, 0, -1);
        due("all", x.suspects(0), 7);
        tray(x, 0, 0, 98);
        due("none", x.suspects(0), 0);
        tray(x, 0, 0, -1, 98);
        due("none in the end", x.suspects(0), 0);
        tray(x, 0, 0, 1, 1);
        due("1 0", x.suspects(0), 3);
        tray(x, 0, 0, -1, 0);
        due("0 0", x.suspects(0), 1);
        DepthBoard y = told("pool 0;" + "goer breath 1;".repeat(6));
        tray(y, 0, 0, 1, 2, 3, 4, 5, 6, 7, 8, 9, 10, 11, 12);
        due("all six", y.suspects(0), 63);
        DepthBoard none = told("pool 0;");
        tray(none, 0, 0, -1);
        due("without goers", none.suspects(0), 0);
        // Two rows fit: 0 to 0 to 1 to 5 by 0 1 2, and 0 to 1 to 7 to 5 by 1 3 0.
        DepthBoard z = told("pool 0;" + "goer breath 1;".repeat(4) + "tells : if board = 0 then if who < 2 then who else 8 end else "
            + "if board = 1 then if who = 2 then 5 else if who = 3 then 7 else 8 end end else if board = 7 and who = 0 then 5 else 8 end end end;");
        tray(z, 0, 0, -1, -1, 5);
        due("rows that meet", z.suspects(0), 15);
        due("two of them", z.posted(0), 2);
        tray(x, 0, 0, -1, -1);
        due("all", x.suspects(0), 7);
        tray(x, 0, 0, 0, 99);
        due("0 2, whatever was asked ahead", x.suspects(0), 5);
    }

    private static void bolds() {
        about("of a GOER that went alone, BOLD 0 to 9 by which it is so");
        DepthBoard x = told("pool 0;goer breath 30 bold 4;goer breath 1;tells : bold * 10 + who;");
        for (int b = 0; b <= 9; b++) {
            tray(x, 0, 0, 10 * b);
            due("just " + b, x.bolds(0, 0), 1 << b);
            due("not goer 1", x.bolds(0, 1), 0);
        }
        tray(x, 0, 0, -1, -1);
        due("all", x.bolds(0, 0), 1023);
        tray(x, 0, 0, 0, 10);
        due("one all along", x.bolds(0, 0), 0);
        DepthBoard y = told("pool 0;thing at 5 there guard 10;thing at 8 there guard 9;thing at 3 there guard 0;goer breath 9;tells : reach;");
        tray(y, 0, 0, 5);
        due("nobody is above 10", y.bolds(0, 0), 1023);
        y.wipe(0);
        due("none posts 5 then", y.bolds(0, 0), 0);
        tray(y, 0, 0, 8);
        due("0 to 8 are not as bold as 9", y.bolds(0, 0), 511);
        tray(y, 0, 0, 9);
        due("9 is", y.bolds(0, 0), 512);
        tray(y, 0, 0, 9, 5, 5, 5, 5, 5, 5, 5, 5, 5, 5, 5);
        due("twelve times: what was wiped is there again and guards", y.bolds(0, 0), 512);
        due("the goer's own boldness stays", y.goer(0, 1), 0);
    }

    private static void nexts() {
        about("how many different numbers it could POST next (0: there are none)");
        DepthBoard x = told("pool 0;thing at 2;goer breath 1;goer breath 3;tells : if things > 0 then bold * 11 else who end;");
        tray(x, 0, 0, 1);
        due("goer 1: ten", x.nexts(0, 1), 10);
        due("goer 0: it isn't so", x.nexts(0, 0), 0);
        tray(x, 0, 0, 0);
        due("goer 0: just 0", x.nexts(0, 0), 1);
        tray(x, 0, 0, -1, 99);
        due("9 bold: 99", x.nexts(0, 1), 1);
        tray(x, 0, 0, -1, 0);
        due("0 bold: 0", x.nexts(0, 1), 1);
        tray(x, 0, 0, -1, 98);
        due("none", x.nexts(0, 1), 0);
        DepthBoard y = told("pool 0;goer breath 1;tells : if bold < 5 then 49 else 50 end;");
        tray(y, 0, 0, -1, -1, -1, -1, -1, -1, -1, -1, -1, -1, -1, -1);
        due("49, 50", y.nexts(0, 0), 2);
    }

    /** At 3 everybody gets down. Goer 0 posts 1 more, goer 1 posts 0, goer 2 leaves it. */
    private static final String SIDES = "pool 0;thing at 9;thing at 0 there;thing at 99;goer breath 1;goer breath 1;goer breath 1;"
        + "reaches : if board > 2 then 9 else 0 end;tells : if who = 0 then board + 1 else if who = 1 then 0 else board end end;";

    private static void forces() {
        about("forces: within how many turns, at fewest (0: it is THERE); NONE: never; -2; -3");
        DepthBoard x = told(SIDES);
        due("it is there", x.forces(1, 7, 7), 0);
        due("it is there, nobody on both sides", x.forces(1, 0, 0), 0);
        due("both can only go up", x.forces(0, 1, 1), 4);
        due("the other one leaves it", x.forces(0, 1, 4), 6);
        due("the other one wipes the board", x.forces(0, 1, 2), -1);
        due("the other one can do it", x.forces(0, 1, 7), -1);
        due("never", x.forces(2, 7, 7), -1);
        due("the first one leaves it, the other one goes up", x.forces(0, 4, 1), 7);
        due("the first one may do both", x.forces(0, 5, 1), 4);
        due("it may be the same goer on both sides", x.forces(0, 4, 4), -1);
        DepthBoard y = told("pool 0;thing at 5;goer breath 1;goer breath 1;reaches : if who = 1 and board = 0 then 5 else 0 end;tells : 9;");
        due("the first one spoils it, though the other one could", y.forces(0, 1, 2), -1);
        due("the other way round", y.forces(0, 2, 1), 1);
        x.say(0, 3);
        due("one turn", x.forces(0, 2, 2), 1);
        due("one turn by any", x.forces(0, 7, 0), 1);
    }

    private static void sidesWithoutGoers() {
        about("a side without GOERS sends none; it counts as a turn");
        DepthBoard x = told(SIDES);
        due("nobody against: up, -, up, -, up, -, down", x.forces(0, 1, 0), 7);
        due("nobody for: -, up, -, up, -, up, -, down", x.forces(0, 0, 1), 8);
        due("nobody for: the other one needn't", x.forces(0, 0, 5), -1);
        due("nobody on both sides", x.forces(0, 0, 0), -1);
        due("best of nobody", x.best(0, 0, 1), -1);
        due("power of nobody", x.power(0, 1), 3);
        due("power of nobody against nobody", x.power(0, 0), 2);
        x.say(0, 3);
        due("nobody for: two turns", x.forces(0, 0, 7), 2);
        DepthBoard none = told("pool 0;thing at 0;thing at 0 there;");
        due("no goers", none.forces(0, 0, 0), -1);
        due("no goers, there", none.forces(1, 0, 0), 0);
        due("no goers, power", none.power(0, 0), 2);
    }

    private static void best() {
        about("best: the first GOER by whom it does within as few; NONE: it doesn't, it is THERE, it has none");
        DepthBoard x = told(SIDES);
        due("goer 0", x.best(0, 7, 1), 0);
        due("the only one it has", x.best(0, 4, 1), 2);
        due("it doesn't", x.best(0, 1, 2), -1);
        due("never", x.best(2, 7, 7), -1);
        due("it is there", x.best(1, 7, 7), -1);
        due("it has none", x.best(0, 0, 1), -1);
        x.say(0, 3);
        due("any: the first", x.best(0, 7, 0), 0);
        due("any: the first it has", x.best(0, 6, 7), 1);
        due("the last", x.best(0, 4, 7), 2);
        DepthBoard y = told("pool 0;thing at 5;goer breath 1;goer breath 4;goer breath 5;goer breath 5;");
        due("within as few: not goer 0", y.best(0, 15, 15), 2);
        due("goer 3", y.best(0, 11, 15), 3);
    }

    private static void power() {
        about("power: THINGS it FORCES (each by itself)");
        DepthBoard x = told("pool 0;" + "thing at 5;".repeat(6) + "goer breath 5;");
        due("all six", x.power(1, 0), 63);
        due("no things", told("pool 0;goer breath 1;").power(1, 1), 0);
        // At 20 everybody gets to 50; goer 0 alone posts 20, goer 1 posts 30, behind which nothing goes on.
        DepthBoard y = told("pool 10;thing at 50;thing at 60;thing at 70 needs 0;goer breath 1;goer breath 1;goer breath 1;"
            + "reaches : if board = 20 then 50 else 0 end;tells : if who = 0 and board = 10 then 20 else if who = 1 and board = 10 then 30 else board end end;");
        due("thing 0 alone", y.power(3, 4), 1);
        due("not by goer 1", y.power(2, 4), 0);
        DepthBoard z = told("pool 10;thing at 0;thing at 50;thing at 50 needs 0;goer breath 1 bold 1;goer breath 1 bold 2;goer breath 1;"
            + "reaches : if board = 20 and bold = 0 then 50 else 0 end;tells : if board = 10 and bold > 0 then 10 + bold * 10 else board end;");
        due("0 and 1 and 2 by 20", z.power(1, 4), 7);
        due("only 0 by 30", z.power(2, 4), 1);
    }

    private static void chance() {
        about("chance: n DIVES (0 to 6), in lowest terms; -2: the THING, what; -3: n");
        DepthBoard x = told("pool 0;thing at 9;thing at 1 there;thing at 99;goer breath 9 odds 3;goer breath 1 odds 6;");
        for (int n : new int[] {-1, 7, Integer.MIN_VALUE, Integer.MAX_VALUE}) due("n " + n, x.chance(0, n, 0), -3);
        for (int what : new int[] {-1, 2, Integer.MIN_VALUE, Integer.MAX_VALUE}) {
            due("what " + what, x.chance(0, 0, what), -2);
            due("what ahead of n", x.chance(0, 7, what), -2);
        }
        long above = 0;
        long below = 1;
        for (int n = 0; n <= 6; n++) {
            due("above, n " + n, x.chance(0, n, 0), above);
            due("below, n " + n, x.chance(0, n, 1), below);
            due("sure: above", x.chance(1, n, 0), 1);
            due("sure: below", x.chance(1, n, 1), 1);
            due("never: above", x.chance(2, n, 0), 0);
            due("never: below", x.chance(2, n, 1), 1);
            above = 3 * above + (below - above);
            below = 3 * below;
        }
        DepthBoard y = told("pool 0;thing at 9;goer breath 9 odds 8;" + "goer breath 0 odds 9;".repeat(5));
        due("53 ^ 6 - 45 ^ 6", y.chance(0, 6, 0), 22164361129L - 8303765625L);
        due("53 ^ 6", y.chance(0, 6, 1), 22164361129L);
        DepthBoard z = told("pool 0;thing at 9;goer breath 9 odds 9;" + "goer breath 0 odds 9;".repeat(5));
        due("6 ^ 6 - 5 ^ 6", z.chance(0, 6, 0), 46656 - 15625);
        due("6 ^ 6", z.chance(0, 6, 1), 46656);
    }

    private static void chanceWithoutOdds() {
        about("if all odds are 0, nobody DIVES");
        DepthBoard x = told("pool 0;thing at 0;thing at 0 there;goer breath 9 odds 0;goer breath 9 odds 0;");
        for (int n = 0; n <= 6; n++) {
            due("not there: above", x.chance(0, n, 0), 0);
            due("not there: below", x.chance(0, n, 1), 1);
            due("there: above", x.chance(1, n, 0), 1);
            due("there: below", x.chance(1, n, 1), 1);
            due("likeliest", x.likeliest(n), 0);
        }
        due("no goers", told("pool 0;thing at 0;").chance(0, 6, 0), 0);
        due("no goers", told("pool 0;thing at 0 there;").chance(0, 6, 1), 1);
        DepthBoard y = told("pool 0;thing at 0;goer breath 9 odds 0;goer breath 9 odds 0;goer breath 0 odds 1;");
        due("one with odds: sure", y.chance(0, 1, 0), 1);
        DepthBoard z = told("pool 0;thing at 5;goer breath 9 odds 0;goer breath 0 odds 1;");
        due("one without odds never dives", z.chance(0, 6, 0), 0);
    }

    private static void likeliest() {
        about("likeliest: the THING that isn't THERE, the first; NONE: all are, there are none; -3");
        DepthBoard x = told("pool 0;thing at 9 there;thing at 9;thing at 5;thing at 5;thing at 4 needs 1;goer breath 9;goer breath 5;");
        for (int n : new int[] {-1, 7, Integer.MIN_VALUE, Integer.MAX_VALUE}) due("n " + n, x.likeliest(n), -3);
        due("of none, the first that isn't there", x.likeliest(0), 1);
        due("the first of like ones", x.likeliest(1), 2);
        due("6", x.likeliest(6), 2);
        x.dive(0);
        due("the only one left", x.likeliest(6), 4);
        x.dive(1);
        due("all are", x.likeliest(6), -1);
        due("there are none", told("pool 0;goer breath 1;").likeliest(0), -1);
        due("-3 ahead of NONE", told("pool 0;goer breath 1;").likeliest(7), -3);
        due("none can come: the first", told("pool 0;thing at 50;thing at 60;goer breath 1;").likeliest(6), 0);
        due("the last of six", told("pool 0;" + "thing at 50;".repeat(5) + "thing at 1;goer breath 1;").likeliest(1), 5);
    }

    /** Six things as the most sets of them can come to be there (16), each with any board. */
    private static void asMuchAsCanBe() {
        about("as many boards with as many things as there can be");
        DepthBoard x = told("pool 0;thing at 60;thing at 50;thing at 10;thing at 30 needs 1;thing at 40 needs 2;thing at 20 needs 4;"
            + "goer breath 1;".repeat(6) + "reaches : if who = 0 then 0 else if board > 49 then who * 10 + 10 else who * 10 end end;"
            + "tells : if who = 0 then if board = 99 then 0 else board + 1 end else board end;");
        due("stands", x.stands(63), 1600);
        due("numbersTold", x.numbersTold(63), 100);
        due("possible", x.possible(63), 63);
        due("soonest: fifty up, then down", x.soonest(0, 63), 51);
        due("way", x.way(0, 63, 50), 5);
        due("needed", x.needed(0), 33);
        due("fewest", x.fewest(0), 33);
        due("forces by turns up", x.forces(0, 63, 1), 51);
        due("forces, the other one leaves it", x.forces(0, 63, 2), 101);
        due("forces, nobody against", x.forces(0, 63, 0), 101);
        due("best", x.best(0, 63, 63), 0);
        due("power", x.power(63, 1), 63);
        due("rows", x.rows(0, 12), 0);
        due("rows of thing 2: one of the goers 1 to 5", x.rows(2, 12), 2176782336L - 1);
        due("chance", x.chance(2, 6, 0), 46655);
        tray(x, 0, 0, -1, -1, -1, -1, -1, -1, -1, -1, -1, -1, -1, 12);
        due("posted: up each time", x.posted(0), 1);
        due("suspects", x.suspects(0), 1);
    }

    private static void nothingOldIsKept() {
        about("from now on: as the GOERS are now");
        DepthBoard x = told("pool 0;thing at 5;thing at 3 there guard 4;goer breath 5 bold 4;goer breath 2;");
        due("bold enough", x.soonest(0, 1), 1);
        x.bold(0, 3);
        due("not bold enough", x.soonest(0, 1), -1);
        due("asked again", x.soonest(0, 1), -1);
        x.bold(0, 5);
        due("more than bold enough", x.soonest(0, 1), 1);
        x.undo(1);
        due("undone", x.possible(1), 2);
        x.breath(1, 5);
        due("breath isn't enough", x.possible(3), 2);
        x.wipe(1);
        due("it was wiped: both come", x.possible(2), 3);
        x.breath(1, 4);
        due("but not from 5", x.possible(2), 2);
        x.bold(1, 9);
        due("however bold", x.forces(0, 2, 2), -1);
        x.breath(1, 5);
        due("from 5", x.forces(0, 2, 2), 1);
    }

    /** Nothing that is asked changes what is so. */
    private static void nothingIsDone() {
        about("nothing else being done: asking changes nothing");
        DepthBoard x = told(LOCKS);
        DepthBoard y = told(LOCKS);
        for (DepthBoard z : new DepthBoard[] {x, y}) {
            z.dive(0);
            z.bold(1, 4);
            z.breath(2, 9);
            z.image(0);
            tray(z, 0, 1, 9, -1);
        }
        x.soonest(0, 7);
        x.way(0, 7, 0);
        x.tells(9, 7);
        x.tellsBy(9, 7, 0);
        x.rows(0, 12);
        x.needed(0);
        x.fewest(0);
        x.deepest(7);
        x.shallowest(7);
        x.numbersTold(7);
        x.possible(7);
        x.stands(7);
        x.posted(0);
        x.whoPosted(0, 0);
        x.suspects(0);
        x.bolds(0, 0);
        x.nexts(0, 1);
        x.forces(0, 3, 4);
        x.best(0, 3, 4);
        x.power(3, 4);
        x.chance(0, 6, 0);
        x.likeliest(6);
        due("all is as it was", seen(x).equals(seen(y)) ? 1 : 0, 1);
    }
}
