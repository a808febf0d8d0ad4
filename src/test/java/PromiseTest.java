/** Each promise of the document by itself: ordinary calls, the edges it names, and refused calls that change nothing. */
public final class PromiseTest extends Due {
    private static final String BASE = "pool 4;thing at 5 guard 3;thing at 10 needs 0;thing at 8 there guard 2;"
        + "goer breath 6 bold 1;goer breath 12 bold 5 odds 2;goer breath 3 bold 9;"
        + "tells : if reach > board then reach + 1 else board + 2 end;";
    /** Goer 0 posts 1 more, goer 1 posts 3 less; only from 5 on somebody gets down to the thing. */
    private static final String LADDER = "pool 2;thing at 50;goer breath 9;goer breath 9;"
        + "reaches : if board > 4 then 50 else 0 end;tells : if who = 0 then board + 1 else board - 3 end;";

    private PromiseTest() { }

    public static void main(String[] args) {
        newObject();
        feed();
        pool();
        faults();
        texts();
        laws();
        nothingOldIsKept();
        thing();
        goer();
        shows();
        truthful();
        dive();
        say();
        wipe();
        breathAndBold();
        undo();
        judgeAndPerform();
        summer();
        soonestAndWay();
        tellsAndTellsBy();
        rows();
        neededAndFewest();
        howDeep();
        posted();
        boldsAndNexts();
        forcing();
        chances();
        trays();
        lists();
        images();
        count();
        refusedOrder();
        end("PromiseTest");
    }

    private static void newObject() {
        about("1 a new object");
        DepthBoard x = new DepthBoard();
        due("NONE", DepthBoard.NONE, -1);
        stands(x, 0, 0, 0);
        due("things", x.count(1), 0);
        due("goers", x.count(3), 0);
        due("deepest(0)", x.deepest(0), 0);
        due("stands(0)", x.stands(0), 1);
        due("fault(0)", x.fault(0), 0);
        due("fault(1)", x.fault(1), -1);
        due("numbers of tray 0", x.write(0, 0, 1), -6);
    }

    private static void feed() {
        about("2 feed");
        DepthBoard x = new DepthBoard();
        for (int i = 1; i <= 45; i++) due("feed " + i, x.feed(0, 0, 0, 0, 0), 20 * i);
        due("feed beyond 900", x.feed(0, 0, 0, 0, 0), -5);
        due("count(7)", x.count(7), 900);
        due("pool(900)", x.pool(900), -31);
        due("feed again", x.feed(0x706f6f6c, 0x20373b20, 0x20202020, 0x20202020, 0x20202020), 20);
        due("highest bytes first", x.pool(20), 1);
        due("the board", x.count(0), 7);
    }

    private static void pool() {
        about("3 pool");
        DepthBoard x = told(BASE);
        due("lines", x.count(8), 8);
        x.dive(0);
        load(x, "pool 9;goer;        ");
        due("below 0", x.pool(-1), -3);
        due("more than there is", x.pool(21), -3);
        due("the tape stays", x.count(7), 20);
        due("a fault", x.pool(20), -32);
        due("the tape is empty", x.count(7), 0);
        due("all stays with a fault: board", x.count(0), 7);
        due("lines stay", x.count(8), 8);
        due("calls that can be undone stay", x.count(6), 1);
        due("pool(0)", x.pool(0), -32);
        due("its place", x.fault(1), 0);
        load(x, "pool 9;xxxxxxxxxxxxx");
        due("only the first n bytes", x.pool(7), 1);
        stands(x, 9, 0, 0);
        due("nothing of the old pool stays", x.count(1) + x.count(3), 0);
        load(x, "pool 5 ; tells : 1 ; tells : 2 ; goer breath 1 ;");
        due("later lines count too", x.pool(48), 4);
        due("later ones strike", x.dive(0), 2);
    }

    private static void fault(String text, int kind, int place) {
        DepthBoard x = new DepthBoard();
        load(x, text);
        int got = x.pool(text.length());
        due("pool of '" + text + "'", Math.min(got, 0), kind == 0 ? 0 : -30 - kind);
        due("fault(0) of '" + text + "'", x.fault(0), kind);
        due("fault(1) of '" + text + "'", x.fault(1), kind == 0 ? -1 : place);
        due("fault(2)", x.fault(2), -1);
        due("fault(-1)", x.fault(-1), -1);
    }

    private static void faults() {
        about("4 fault");
        fault("", 2, 0);
        fault("   ", 2, 3);
        fault("goer breath 1;", 2, 0);
        fault("pool", 2, 4);
        fault("pool 1  ", 2, 8);
        fault("pool 1;pool 1;", 2, 7);
        fault("pool;", 2, 4);
        fault("xool 1;", 2, 0);
        fault("pool 1;zz;", 2, 7);
        fault("pool 1;thing at;", 2, 15);
        fault("pool 1;thing at 1 guard;", 2, 23);
        fault("pool 1;thing at 1;thing at 1 needs;", 2, 34);
        fault("pool 1;goer breath;", 2, 18);
        fault("pool 1;goer breath 1 bold;", 2, 25);
        fault("pool 1;;", 2, 7);
        fault("pools 1;", 2, 0);
        fault("pool 1;Thing at 1;", 1, 7);
        fault("pool 1;\tgoer breath 1;", 1, 7);
        fault("pool 1;\0", 1, 7);
        fault("pool 1;\u00e9", 1, 7);
        fault("pool 100;?", 3, 5);
        fault("pool 1000;", 1, 5);
        fault("pool 0000001;", 1, 5);
        fault("pool 1;1000", 1, 7);
        fault("pool 1;thing at 1 guard 11;", 3, 24);
        fault("pool 1;thing at 100;", 3, 16);
        fault("pool 1;thing at 1;thing at 2 needs 1;", 3, 35);
        fault("pool 1;thing at 1;thing at 2 needs 0 needs 0 there there;", 0, 0);
        fault("pool 1;thing guard 1;", 2, 13);
        fault("pool 1;thing at 1 bold 1;", 2, 18);
        fault("pool 1;goer breath 1 guard 1;", 2, 21);
        fault("pool 1;goer breath 1 odds 10;", 3, 26);
        fault("pool 1;goer breath 1 bold 10;", 3, 26);
        fault("pool 1;goer breath 100;", 3, 19);
        fault("pool 1;goer bold 1 breath 1;", 2, 12);
        fault("pool 1;" + "thing at 1;".repeat(6), 0, 0);
        fault("pool 1;" + "thing at 1;".repeat(6) + "thing!", 4, 73);
        fault("pool 1;" + "goer breath 1;".repeat(7), 4, 91);
        fault("pool 1;" + "goer breath 1;".repeat(6) + "thing at 1 needs 0;", 3, 108);
    }

    private static void texts() {
        about("4 fault, laws");
        fault("pool 1;tells : reach;", 0, 0);
        fault("pool 1;tells : breath;", 2, 15);
        fault("pool 1;reaches : breath;", 0, 0);
        fault("pool 1;reaches : reach;", 2, 17);
        fault("pool 1;reaches breath;", 2, 15);
        fault("pool 1;tells : 1 +;", 2, 18);
        fault("pool 1;tells : - 1;", 2, 15);
        fault("pool 1;tells : 1 2;", 2, 17);
        fault("pool 1;tells : 1", 2, 16);
        fault("pool 1;tells : 1)", 2, 16);
        fault("pool 1;tells : [ 1 = 1 ];", 2, 15);
        fault("pool 1;tells : not 1;", 2, 15);
        fault("pool 1;tells : if 1 then 2 else 3 end;", 2, 20);
        fault("pool 1;tells : if 1 = 1 = 1 then 2 else 3 end;", 2, 24);
        fault("pool 1;tells : if ( 1 = 1 ) then 2 else 3 end;", 2, 22);
        fault("pool 1;tells : if [ 1 ] = 1 then 2 else 3 end;", 2, 22);
        fault("pool 1;tells : if 1 = 1 then 2 end;", 2, 31);
        fault("pool 1;tells : if 1 = 1 then 2 else 3;", 2, 37);
        fault("pool 1;tells : if not not 1 = 1 and [ 2 < 3 or 4 > 5 ] then 2 else 3 end;", 0, 0);
        fault("pool 1;tells : ((((((1))))));", 0, 0);
        fault("pool 1;tells : (((((((1)))))));", 4, 21);
        fault("pool 1;tells : ((((((1(", 2, 22);
        fault("pool 1;tells : ((((((1)))))) + ((((((1))))));", 0, 0);
        fault("pool 1;tells : if not not not not not 1 = 1 then 2 else 3 end;", 0, 0);
        fault("pool 1;tells : if not not not not not not 1 = 1 then 2 else 3 end;", 4, 38);
        fault("pool 1;tells : if not not not not not (1) = 1 then 2 else 3 end;", 4, 38);
        fault("pool 1;tells : if [[[[[1 = 1]]]]] then ((((( 2 ))))) else 3 end;", 0, 0);
        fault("pool 1;tells : if [[[[[[1 = 1", 4, 23);
        fault("pool 1;tells : if 1 = 1 then ((((((2", 4, 34);
        fault("pool 1;tells : if 1 = 1 then 2 else ((((((2", 4, 41);
        fault("pool 1;tells:999+999*who-things;", 0, 0);
        fault("pool1;thing\nat5guard3there;goer breath6bold1odds2;", 0, 0);
    }

    private static int posts(String law) {
        return told("pool 7;thing at 90 there;goer breath 1;goer breath 20 bold 3;tells : " + law + ";").goer(1, 4);
    }

    private static void laws() {
        about("the laws");
        due("who, bold, board, things, reach", posts("who * 10 + bold + board + things + reach * 2"), 10 + 3 + 7 + 1 + 40);
        due("breath", told("pool 0;goer breath 20;reaches : breath - 3;").goer(0, 3), 17);
        due("no more than 99", posts("100"), 99);
        due("no less than 0", posts("0 - 1"), 0);
        due("* ahead of +", posts("2 + 3 * 4"), 14);
        due("from the left", posts("20 - 5 - 3"), 12);
        due("brackets", posts("20 - (5 - 3)"), 18);
        due("+ kept", posts("999 * 999 + 999 * 999 - 999 * 999 - 998 - 999"), 2);
        due("* kept", posts("999 * 999 * 999 - 999 * 999 - 999 - 998"), 2);
        due("- kept", posts("0 - 999 * 999 - 999 * 999 + 999 * 999 + 999 + 999 + 50"), 49);
        due("if", posts("if 1 < 2 then 11 else 22 end"), 11);
        due("else", posts("if 2 < 2 then 11 else 22 end"), 22);
        due("or", posts("if 1 = 2 or 3 > 2 then 11 else 22 end"), 11);
        due("and binds more", posts("if 1 = 1 or 1 = 1 and 1 = 2 then 11 else 22 end"), 11);
        due("[ ]", posts("if [ 1 = 1 or 1 = 1 ] and 1 = 2 then 11 else 22 end"), 22);
        due("not binds most", posts("if not 1 = 2 and 1 = 2 then 11 else 22 end"), 22);
        due("not =", posts("if not 1 = 1 then 11 else 22 end"), 22);
        due("not >", posts("if not 2 > 1 then 11 else 22 end"), 22);
        due("not <", posts("if not 1 < 2 then 11 else 22 end"), 22);
        due("not not", posts("if not not 1 = 1 then 11 else 22 end"), 11);
        due("as much held as can be", posts("1+2*if 0=1 or 1=1 and 3<".repeat(6) + "1+2*7" + " then 4 else 5 end".repeat(6)), 9);
        due("as much held in else", posts("1+2*if 0=1 then 4 else ".repeat(6) + "0-1+2*0" + " end".repeat(6) + " + 2"), 1);
        due("brackets and not", posts("1+2*if 0=1 or 1=1 and [ 0=1 or 1=1 and not [ 0=1 or 1=1 and not (1+2*3) = 7 ] ] then 4 else 5 end"), 9);
        due("if within a sum", posts("1 + if 1 = 1 then 2 else 3 end * 4"), 9);
        due("things ahead", told("pool 0;thing at 1;goer breath 5;tells : things;").dive(0), 0);
        due("the board ahead", told("pool 3;goer breath 5;tells : board * 2;").dive(0), 6);
        DepthBoard x = told("pool 98;goer breath 5;");
        due("1 more", x.dive(0), 99);
        due("at most 99", x.dive(0), 99);
    }

    /** What an older pool, breath or boldness led to is not kept. */
    private static void nothingOldIsKept() {
        about("nothing old is kept");
        DepthBoard x = new DepthBoard();
        for (int depth = 0; depth < 20; depth++) {
            String text = "pool 3;thing at " + depth + ";goer breath 9;reaches : breath * 3 - 9 * 2;tells : " + "if 1 = 1 then board + ".repeat(5)
                + depth + " else 0 end".repeat(5) + ";";
            load(x, text);
            x.pool(text.length());
            due("soonest " + depth, x.soonest(0, 1), depth <= 9 ? 1 : -1);
            due("forces " + depth, x.forces(0, 1, 1), depth <= 9 ? 1 : -1);
            due("rows " + depth, x.rows(0, 2), depth <= 9 ? 1 : 0);
            due("tells " + depth, x.tells(15 + depth, 1), 1);
            if (depth == 5) x.image(0);
        }
        x.restore(0);
        due("restored", x.soonest(0, 1), 1);
        x.breath(0, 7);
        due("less breath", x.soonest(0, 1), -1);
        x.undo(1);
        due("undone", x.possible(1), 1);
        x.dive(0);
        due("stands", x.soonest(0, 0), 0);
        x.wipe(0);
        due("wiped", x.soonest(0, 0), -1);
        due("possible", x.possible(0), 0);
    }

    private static void thing() {
        about("5 thing");
        DepthBoard x = told(BASE + "thing at 99 guard 4 guard 10 needs 2 needs 0;");
        due("depth", x.thing(3, 0), 99);
        due("guard, the later one", x.thing(3, 1), 10);
        due("needs", x.thing(3, 2), 5);
        due("not there", x.thing(3, 3), 0);
        due("there", x.thing(2, 3), 1);
        due("no guard told", x.thing(1, 1), 0);
        due("what -1", x.thing(0, -1), -2);
        due("what 4", x.thing(0, 4), -2);
        due("thing -1", x.thing(-1, 0), -2);
        due("thing 4", x.thing(4, 0), -2);
    }

    private static void goer() {
        about("6 goer");
        DepthBoard x = told("pool 50;thing at 20 there guard 6;thing at 10 there guard 5;thing at 5 guard 10;"
            + "goer breath 30 bold 5;goer breath 30 bold 4 bold 6 odds 3 odds 0;goer breath 30;");
        due("breath", x.goer(0, 0), 30);
        due("bold, the later one", x.goer(1, 1), 6);
        due("odds, the later one", x.goer(1, 2), 0);
        due("bold and odds untold", 10 * x.goer(2, 1) + x.goer(2, 2), 1);
        due("kept by a guard above it", x.goer(0, 3), 20);
        due("kept by none", x.goer(1, 3), 30);
        due("kept by the least deep one", x.goer(2, 3), 10);
        due("posts", x.goer(2, 4), 51);
        due("a thing that isn't there guards nothing", told("pool 0;thing at 1 guard 10;goer breath 9;").goer(0, 3), 9);
        due("what 5", x.goer(0, 5), -2);
        due("what -1", x.goer(0, -1), -2);
        due("goer 3", x.goer(3, 0), -2);
        due("goer -1", x.goer(-1, 0), -2);
        stands(x, 50, 3, 0);
    }

    private static void shows() {
        about("7 shows");
        DepthBoard x = told("pool 0;thing at 5;thing at 5 needs 0;thing at 6;thing at 7 there;goer breath 5;goer breath 4;");
        due("needs ahead, as deep, not deeper, there already", x.shows(0), 9);
        due("not so deep", x.shows(1), 8);
        due("goer 2", x.shows(2), -2);
        due("goer -1", x.shows(-1), -2);
        x.dive(0);
        due("needs are there now", x.shows(0), 11);
    }

    private static void truthful() {
        about("8 truthful");
        DepthBoard x = told("pool 4;goer breath 5;goer breath 6;goer breath 5;");
        due("truthful()", x.truthful(), 5);
        x.dive(0);
        due("truthful() behind a dive", x.truthful(), 2);
        due("without goers", told("pool 0;").truthful(), 0);
    }

    private static void dive() {
        about("9 dive");
        DepthBoard x = told(BASE);
        due("dive(1)", x.dive(1), 13);
        stands(x, 13, 5, 1);
        due("dive(0), kept by thing 0", x.dive(0), 15);
        stands(x, 15, 5, 2);
        due("dive(1)", x.dive(1), 17);
        stands(x, 17, 7, 3);
        due("dive(3)", x.dive(3), -11);
        due("dive(-1)", x.dive(-1), -11);
        stands(x, 17, 7, 3);
    }

    private static void say() {
        about("10 say");
        DepthBoard x = told(BASE);
        due("less than its reach", x.say(1, 11), -12);
        due("100", x.say(1, 100), -11);
        due("-1", x.say(1, -1), -11);
        due("no such goer", x.say(3, 50), -11);
        stands(x, 4, 4, 0);
        due("just its reach", x.say(1, 12), 12);
        stands(x, 12, 5, 1);
        due("more", x.say(1, 99), 12);
        stands(x, 99, 7, 2);
    }

    private static void wipe() {
        about("11 wipe");
        DepthBoard x = told(BASE);
        x.dive(1);
        due("wipe(2)", x.wipe(2), 1);
        stands(x, 13, 1, 2);
        due("it isn't there", x.wipe(2), -12);
        due("no such thing", x.wipe(3), -11);
        due("no such thing", x.wipe(-1), -11);
        stands(x, 13, 1, 2);
        due("wipe(0)", x.wipe(0), 0);
    }

    private static void breathAndBold() {
        about("12, 13 breath, bold");
        DepthBoard x = told(BASE);
        due("breath", x.breath(0, 99), 6);
        due("breath is", x.goer(0, 0), 99);
        due("the same again is a call, too", x.breath(0, 99), 99);
        due("bold", x.bold(0, 9), 1);
        due("bold is", x.goer(0, 1), 9);
        due("reach", x.goer(0, 3), 99);
        due("breath 100", x.breath(0, 100), -11);
        due("breath -1", x.breath(0, -1), -11);
        due("bold 10", x.bold(0, 10), -11);
        due("bold -1", x.bold(0, -1), -11);
        due("no such goer", x.breath(3, 1), -11);
        due("no such goer", x.breath(-1, 1), -11);
        due("no such goer", x.bold(3, 1), -11);
        due("no such goer", x.bold(-1, 1), -11);
        stands(x, 4, 4, 3);
        due("0", x.breath(0, 0) + x.bold(0, 0), 108);
    }

    private static void undo() {
        about("14 undo");
        DepthBoard x = told(BASE);
        due("nothing was done", x.undo(1), -3);
        x.breath(0, 50);
        x.bold(0, 7);
        x.wipe(2);
        x.say(1, 60);
        x.dive(0);
        due("0", x.undo(0), -3);
        due("6 of 5", x.undo(6), -3);
        due("-1", x.undo(-1), -3);
        due("the dive", x.undo(1), 4);
        stands(x, 60, 5, 4);
        due("the wiped thing is back", x.undo(2), 2);
        stands(x, 4, 4, 2);
        due("bold is still", x.goer(0, 1), 7);
        due("all", x.undo(2), 0);
        due("breath, bold", 10 * x.goer(0, 0) + x.goer(0, 1), 61);
        for (int i = 0; i < 12; i++) x.breath(0, i);
        due("10 at most", x.count(6), 10);
        due("11", x.undo(11), -3);
        due("10", x.undo(10), 0);
        due("the eldest are forgotten", x.goer(0, 0), 1);
        x.dive(0);
        x.undo(1);
        x.dive(1);
        due("behind an undone one", x.undo(1), 0);
        stands(x, 4, 4, 0);
    }

    private static void judgeAndPerform() {
        about("15, 16 judge, perform");
        DepthBoard x = told(BASE);
        due("missing", x.judge(0, 0), -6);
        due("what first", x.judge(0, 4), -2);
        due("what -1", x.judge(0, -1), -2);
        due("tray 4", x.judge(4, 0), -2);
        due("perform: missing", x.perform(0), -6);
        due("perform: tray -1", x.perform(-1), -2);
        due("perform: tray 4", x.perform(4), -2);
        tray(x, 0, 1);
        due("nothing to do", x.judge(0, 0), -1);
        due("why", x.judge(0, 1), 0);
        due("perform nothing", x.perform(0), 0);
        due("it did none", x.count(6), 0);
        // Goer 1 says 12, goer 0 becomes 9 bold, thing 2 is wiped, goer 0 dives, goer 1 says less than its reach.
        tray(x, 0, 1, 1112, 3009, 2002, 0, 1100, 1);
        due("the first that can't be", x.judge(0, 0), 4);
        due("why", x.judge(0, 1), 2);
        due("things then", x.judge(0, 2), 1);
        due("the board then", x.judge(0, 3), 14);
        stands(x, 4, 4, 0);
        due("perform", x.perform(0), 4);
        stands(x, 14, 1, 1);
        due("bold", x.goer(0, 1), 9);
        due("undone as a whole", x.undo(1), 0);
        stands(x, 4, 4, 0);
        due("bold again", x.goer(0, 1), 1);
        due("1 of a goer", why(x, 3), 1);
        due("1 of 9", why(x, 9), 1);
        due("1 of 10", why(x, 10), 1);
        due("1 of -1", why(x, -1), 1);
        due("1 of 999", why(x, 999), 1);
        due("0 of 1012", why(x, 1012), 0);
        due("goer 0 says 0", why(told("pool 5;goer breath 0;"), 1000), 0);
        due("goer 0 says 99", why(x, 1099), 0);
        due("goer 0 is 0 bold", why(x, 3000), 0);
        due("2 of 1005", why(x, 1005), 2);
        due("1 of 1399", why(x, 1399), 1);
        due("1 of 1999", why(x, 1999), 1);
        due("2 of 2000", why(x, 2000), 2);
        due("0 of 2002", why(x, 2002), 0);
        due("1 of 2003", why(x, 2003), 1);
        due("1 of 2010", why(x, 2010), 1);
        due("0 of 3029", why(x, 3029), 0);
        due("1 of 3030", why(x, 3030), 1);
        due("1 of 3100", why(x, 3100), 1);
        due("1 of a long one", why(x, 1L << 32), 1);
        stands(x, 4, 4, 0);
        tray(x, 2, 3, 2, 2, 2);
        due("all done", x.judge(2, 0), -1);
        due("board", x.judge(2, 3), 10);
        due("perform all", x.perform(2), 3);
        tray(x, 2, 3, 77, 1);
        due("none done", x.perform(2), 0);
        due("one call", x.count(6), 1);
    }

    private static int why(DepthBoard x, long deed) {
        tray(x, 3, 3, deed);
        return x.judge(3, 1);
    }

    private static void summer() {
        about("17 summer");
        DepthBoard x = told(BASE);
        due("0 times", x.summer(1, 0), -3);
        due("41 times", x.summer(1, 41), -3);
        stands(x, 4, 4, 0);
        // From 0 on the draws modulo 6 are 0, 2 (goer 2 dives), 0, 3 (there is no goer 3).
        due("two times", x.summer(0, 2), 1);
        stands(x, 6, 4, 1);
        due("undone", x.undo(1), 0);
        // From here on: 5, 1, 8 of 10 (goer 1 is 8 bold), 4, 2 (thing 2 is wiped), 3, 0 (goer 0 dives).
        due("three times", x.summer(42395, 3), 3);
        stands(x, 7, 1, 1);
        due("bold", x.goer(1, 1), 8);
        due("undone", x.undo(1), 0);
        stands(x, 4, 4, 0);
        due("a pool without all", told("pool 1;").summer(5, 40), 0);
        DepthBoard y = told("pool 1;");
        y.summer(5, 40);
        due("it did none", y.count(6), 0);
    }

    private static void soonestAndWay() {
        about("18, 19 soonest, way");
        DepthBoard x = told(LADDER);
        due("three up, then down", x.soonest(0, 3), 4);
        due("way 0", x.way(0, 3, 0), 0);
        due("way 2", x.way(0, 3, 2), 0);
        due("way 3: the first of like ones", x.way(0, 3, 3), 0);
        due("way 4", x.way(0, 3, 4), -1);
        due("by 1 alone", x.soonest(0, 2), -1);
        due("way of none", x.way(0, 2, 0), -1);
        due("by nobody", x.soonest(0, 0), -1);
        due("set 4", x.soonest(0, 4), -3);
        due("set -1", x.soonest(0, -1), -3);
        due("thing 1", x.soonest(1, 3), -2);
        due("thing -1", x.way(-1, 4, -1), -2);
        due("way, set 4", x.way(0, 4, 0), -3);
        due("way, i", x.way(0, 2, -1), -3);
        stands(x, 2, 0, 0);
        x.say(0, 6);
        due("soon", x.soonest(0, 2), 1);
        due("by 1", x.way(0, 2, 0), 1);
        x.dive(0);
        due("there", x.soonest(0, 0), 0);
        due("no way", x.way(0, 3, 0), -1);
        DepthBoard y = told("pool 0;thing at 9;goer breath 1;goer breath 2;goer breath 9;goer breath 9;reaches : if board = 7 then 9 else 0 end;"
            + "tells : if board = 0 then who + 1 else if who + board = 4 then 7 else 8 end end;");
        due("like ones", y.soonest(0, 15), 3);
        due("first goer by goer", 100 * y.way(0, 15, 0) + 10 * y.way(0, 15, 1) + y.way(0, 15, 2), 30);
        due("without goer 0", 100 * y.way(0, 14, 0) + 10 * y.way(0, 14, 1) + y.way(0, 14, 2), 121);
    }

    private static void tellsAndTellsBy() {
        about("20, 21 tells, tellsBy");
        DepthBoard x = told(LADDER);
        due("now", x.tells(2, 0), 0);
        due("nobody", x.tellsBy(2, 3, 0), -1);
        due("4", x.tells(4, 3), 2);
        due("0", x.tells(0, 3), 1);
        due("0 by 1", x.tellsBy(0, 3, 0), 1);
        due("1: down, then up", x.tells(1, 3), 2);
        due("first 1", x.tellsBy(1, 3, 0), 1);
        due("then 0", x.tellsBy(1, 3, 1), 0);
        due("not so many", x.tellsBy(1, 3, 2), -1);
        due("1 by 0 alone", x.tells(1, 1), -1);
        due("by none", x.tellsBy(1, 1, 0), -1);
        due("99", x.tells(99, 1), 97);
        due("number 100", x.tells(100, 3), -3);
        due("number -1", x.tells(-1, 3), -3);
        due("set 4", x.tells(2, 4), -3);
        due("number", x.tellsBy(100, 3, 0), -3);
        due("set", x.tellsBy(2, 4, 0), -3);
        due("i", x.tellsBy(2, 3, -1), -3);
        stands(x, 2, 0, 0);
    }

    private static void rows() {
        about("22 rows");
        DepthBoard x = told("pool 0;thing at 5;thing at 9;thing at 1 there;goer breath 5;goer breath 1;goer breath 1;goer breath 1;goer breath 1;goer breath 1;");
        due("0 dives", x.rows(0, 0), 0);
        due("0 dives, there", x.rows(2, 0), 1);
        due("1", x.rows(0, 1), 1);
        due("2", x.rows(0, 2), 11);
        due("never", x.rows(1, 12), 0);
        due("12", x.rows(2, 12), 2176782336L);
        due("12 with goer 0", x.rows(0, 12), 2176782336L - 244140625L);
        due("13", x.rows(0, 13), -3);
        due("-1", x.rows(0, -1), -3);
        due("thing", x.rows(3, 13), -2);
        DepthBoard y = told("pool 0;thing at 5 there;");
        due("no goers, 0 dives", y.rows(0, 0), 1);
        due("no goers, 1 dive", y.rows(0, 1), 0);
    }

    private static void neededAndFewest() {
        about("23, 24 needed, fewest");
        String twoLocks = "pool 0;thing at 5;thing at 5;thing at 90;thing at 5 there;goer breath 1;goer breath 1;goer breath 1;"
            + "reaches : if board = 9 then 5 else 0 end;"
            + "tells : if who = 0 and board = 0 then 4 else if who = 1 and board = 4 or who = 2 and board = 4 then 9 else board end end;";
        DepthBoard x = told(twoLocks);
        due("goer 0 opens alone", x.needed(0), 1);
        due("the least of 0 with 1, 0 with 2", x.fewest(0), 3);
        due("it can't anyhow", x.needed(2), 0);
        due("none", x.fewest(2), -1);
        due("it is there", x.needed(3), 0);
        due("nobody for what is there", x.fewest(3), 0);
        due("thing 4", x.needed(4), -2);
        due("thing 4", x.fewest(4), -2);
        due("thing -1", x.needed(-1), -2);
        due("thing -1", x.fewest(-1), -2);
        stands(x, 0, 8, 0);
        DepthBoard y = told("pool 0;thing at 9;goer breath 8;goer breath 8;goer breath 9;goer breath 9;");
        due("either", y.needed(0), 0);
        due("the least set", y.fewest(0), 4);
        DepthBoard z = told("pool 0;thing at 9;goer breath 9;goer breath 9;goer breath 9;"
            + "reaches : if board = 2 then 9 else if board = 9 and who = 2 then 9 else 0 end end;"
            + "tells : if who = 2 then 9 else if who = 0 then 1 else if board = 1 then 2 else 0 end end end;");
        due("one alone ahead of two, though its bits are more", z.fewest(0), 4);
        DepthBoard all = told("pool 0;thing at 9;goer breath 1;goer breath 1;reaches : if board = 2 then 9 else 0 end;"
            + "tells : if who = board then board + 1 else board end;");
        due("all goers", all.fewest(0), 3);
        due("all goers", all.needed(0), 3);
    }

    private static void howDeep() {
        about("25 to 29 how deep");
        DepthBoard x = told("pool 50;thing at 5;thing at 9 there;goer breath 5;goer breath 1;goer breath 1;"
            + "tells : if who = 0 then 60 else if who = 1 then 40 else board end end;");
        due("deepest, nobody", x.deepest(0), 50);
        due("deepest", x.deepest(7), 60);
        due("deepest by 1: as it tells now", x.deepest(2), 50);
        due("shallowest", x.shallowest(7), 40);
        due("shallowest by 0: as it tells now", x.shallowest(1), 50);
        due("numbers", x.numbersTold(7), 3);
        due("numbers by 0", x.numbersTold(1), 2);
        due("numbers by 2", x.numbersTold(4), 1);
        due("possible", x.possible(7), 3);
        due("possible by 1, 2", x.possible(6), 2);
        due("stands: 50, 40 without; 60, 40 with", x.stands(7), 4);
        due("stands, nobody", x.stands(0), 1);
        for (int set : new int[] {8, -1, 1 << 31}) {
            due("deepest", x.deepest(set), -3);
            due("shallowest", x.shallowest(set), -3);
            due("numbersTold", x.numbersTold(set), -3);
            due("possible", x.possible(set), -3);
            due("stands", x.stands(set), -3);
        }
        stands(x, 50, 2, 0);
        x.dive(1);
        due("from now on", x.deepest(4), 40);
        DepthBoard y = told("pool 0;goer breath 1;");
        due("all numbers", y.numbersTold(1), 100);
        y.bold(0, 5);
        due("again", y.numbersTold(1), 100);
    }

    private static void posted() {
        about("30 to 32 posted, whoPosted, suspects");
        DepthBoard x = told("pool 0;goer breath 1;goer breath 2;goer breath 3;"
            + "tells : if who = 2 then board + 2 else board + who end;");
        due("missing", x.posted(0), -6);
        due("tray 4", x.posted(4), -2);
        due("tray -1", x.whoPosted(-1, -1), -2);
        due("missing", x.whoPosted(0, -1), -6);
        due("missing", x.suspects(3), -6);
        tray(x, 0, 3);
        due("no numbers", x.posted(0), -4);
        due("no numbers", x.whoPosted(0, 0), -4);
        tray(x, 0, 3, 0, 0, 0, 0, 0, 0, 0, 0, 0, 0, 0, 0, 100);
        due("13 numbers", x.suspects(0), -4);
        tray(x, 0, 3, 0, 100);
        due("100", x.posted(0), -3);
        tray(x, 0, 3, 0, -2);
        due("-2", x.suspects(0), -3);
        tray(x, 0, 3, 1L << 32);
        due("a long one", x.posted(0), -3);
        tray(x, 0, 0, 2, -1, 3);
        due("asked first", x.whoPosted(0, 0), 2);
        tray(x, 0, 0, 1, 1, 1, 2);
        due("asked first", x.suspects(0), 3);
        tray(x, 0, 0, 1, -1, 3);
        due("1, unseen, 3: 1 0 2, 1 1 1, 1 2 0", x.posted(0), 3);
        due("first row", 100 * x.whoPosted(0, 0) + 10 * x.whoPosted(0, 1) + x.whoPosted(0, 2), 102);
        due("i", x.whoPosted(0, 3), -1);
        due("i is below 0", x.whoPosted(0, -1), -3);
        due("all went in some", x.suspects(0), 7);
        tray(x, 0, 0, -1, 4);
        due("2 2", x.posted(0), 1);
        due("only 2", x.suspects(0), 4);
        tray(x, 0, 0, 3);
        due("nobody", x.posted(0), 0);
        due("nobody", x.whoPosted(0, 0), -1);
        due("nobody", x.suspects(0), 0);
        tray(x, 0, 0, 1, 1, 1);
        due("goer 1, then 0", x.suspects(0), 3);
        tray(x, 0, 0, -1, -1, -1, -1, -1, -1, -1, -1, -1, -1, -1, -1);
        due("all rows of 12", x.posted(0), 531441);
        stands(x, 0, 0, 0);
    }

    private static void boldsAndNexts() {
        about("33, 34 bolds, nexts");
        DepthBoard x = told("pool 0;thing at 20 there guard 4;goer breath 30 bold 1;goer breath 3;tells : if bold > 7 then reach + bold else reach end;");
        due("missing, but the goer first", x.bolds(0, 2), -2);
        due("tray", x.bolds(4, 0), -2);
        due("missing", x.bolds(0, 0), -6);
        due("nexts: goer", x.nexts(0, -1), -2);
        due("nexts: tray", x.nexts(-1, 0), -2);
        due("nexts: missing", x.nexts(0, 0), -6);
        tray(x, 0, 3);
        due("no numbers", x.bolds(0, 0), -4);
        due("no numbers", x.nexts(0, 0), -4);
        tray(x, 0, 3, 100);
        due("100", x.bolds(0, 0), -3);
        due("100", x.nexts(0, 0), -3);
        tray(x, 0, 3, 20, -1);
        due("0 to 3", x.bolds(0, 0), 15);
        due("just 20 next", x.nexts(0, 0), 1);
        tray(x, 0, 3, 30);
        due("4 to 7", x.bolds(0, 0), 240);
        tray(x, 0, 3, 39);
        due("9", x.bolds(0, 0), 512);
        tray(x, 0, 3, -1);
        due("all", x.bolds(0, 0), 1023);
        due("20, 30, 38, 39 next", x.nexts(0, 0), 4);
        due("3, 11, 12 next of goer 1", x.nexts(0, 1), 3);
        tray(x, 0, 3, 31);
        due("none", x.bolds(0, 0), 0);
        due("none", x.nexts(0, 0), 0);
        due("it is as bold as it was", x.goer(0, 1), 1);
        stands(x, 0, 1, 0);
    }

    private static void forcing() {
        about("35 to 37 forces, best, power");
        // At 3 everybody gets down. Goer 0 posts 1 more, goer 1 posts 0, goer 2 leaves it.
        DepthBoard x = told("pool 0;thing at 9;thing at 0 there;thing at 99;goer breath 1;goer breath 1;goer breath 1;"
            + "reaches : if board > 2 then 9 else 0 end;tells : if who = 0 then board + 1 else if who = 1 then 0 else board end end;");
        due("both up", x.forces(0, 1, 1), 4);
        due("the other one leaves it", x.forces(0, 1, 4), 6);
        due("the other one wipes it", x.forces(0, 1, 3), -1);
        due("nobody against", x.forces(0, 7, 0), 7);
        due("one that can stay or go up stays", x.forces(0, 5, 5), 6);
        due("nobody for", x.forces(0, 0, 1), 8);
        due("nobody at all", x.forces(0, 0, 0), -1);
        due("there", x.forces(1, 1, 1), 0);
        due("never", x.forces(2, 7, 0), -1);
        due("thing 3", x.forces(3, 8, 0), -2);
        due("first", x.forces(0, 8, 0), -3);
        due("second", x.forces(0, 0, -1), -3);
        due("best", x.best(0, 7, 0), 0);
        due("best, nobody", x.best(0, 0, 1), -1);
        due("best, there", x.best(1, 1, 1), -1);
        due("best, never", x.best(2, 7, 0), -1);
        due("best, thing", x.best(3, 8, 0), -2);
        due("best, set", x.best(0, 8, 0), -3);
        due("power", x.power(1, 1), 3);
        due("power against 1", x.power(1, 2), 2);
        due("power, set", x.power(8, 0), -3);
        due("power, set", x.power(0, 8), -3);
        stands(x, 0, 2, 0);
        x.say(0, 3);
        due("any one: the first", x.best(0, 6, 7), 1);
        due("within one turn", x.forces(0, 6, 7), 1);
    }

    private static void chances() {
        about("38, 39 chance, likeliest");
        DepthBoard x = told("pool 0;thing at 9;thing at 5;thing at 1 there;thing at 5;goer breath 9 odds 2;goer breath 5 odds 4;goer breath 1 odds 0;");
        due("above", x.chance(0, 1, 0), 1);
        due("below, in lowest terms", x.chance(0, 1, 1), 3);
        due("above", x.chance(0, 6, 0), 665);
        due("below", x.chance(0, 6, 1), 729);
        due("sure", x.chance(1, 3, 0), 1);
        due("sure", x.chance(1, 3, 1), 1);
        due("not by none", x.chance(1, 0, 0), 0);
        due("0 of 1", x.chance(1, 0, 1), 1);
        due("likeliest, the first", x.likeliest(1), 1);
        due("likeliest of none", x.likeliest(0), 0);
        due("n", x.chance(0, 7, 0), -3);
        due("n", x.chance(0, -1, 0), -3);
        due("what ahead of n", x.chance(0, 7, 2), -2);
        due("what", x.chance(0, 1, -1), -2);
        due("thing", x.chance(4, 7, 0), -2);
        due("n", x.likeliest(7), -3);
        due("n", x.likeliest(-1), -3);
        stands(x, 0, 4, 0);
        x.dive(0);
        due("all are there", x.likeliest(1), -1);
        DepthBoard y = told("pool 0;thing at 1;thing at 1 there;goer breath 9 odds 0;");
        due("nobody dives", y.chance(0, 6, 0), 0);
        due("nobody dives", y.chance(0, 6, 1), 1);
        due("there already", y.chance(1, 6, 0), 1);
        due("the only one", y.likeliest(6), 0);
        due("no things", new DepthBoard().likeliest(6), -1);
        DepthBoard z = told("pool 0;thing at 9;goer breath 9 odds 1;" + "goer breath 0 odds 9;".repeat(5));
        due("46 ^ 6 - 45 ^ 6", z.chance(0, 6, 0), 9474296896L - 8303765625L);
        due("46 ^ 6", z.chance(0, 6, 1), 9474296896L);
    }

    private static void trays() {
        about("40, 41 numbers, write");
        DepthBoard x = new DepthBoard();
        due("missing", x.write(0, 0, 5), -6);
        due("tray 4", x.write(4, 0, 5), -2);
        due("tray -1", x.write(-1, 0, 5), -2);
        due("numbers, tray 4", x.numbers(4, 0, 41), -2);
        due("numbers, tray -1", x.numbers(-1, 0, 1), -2);
        due("numbers, sort 4", x.numbers(0, 4, 1), -2);
        due("numbers, sort -1", x.numbers(0, -1, 1), -2);
        due("numbers 40", x.numbers(0, 0, 40), 0);
        due("41", x.numbers(0, 1, 41), -3);
        due("-1", x.numbers(0, 1, -1), -3);
        due("it stays", x.write(0, 39, 255), -1);
        due("40", x.write(0, 40, 1), -7);
        due("-1", x.write(0, -1, 1), -7);
        due("8 bits", x.write(0, 0, 0x180), -128);
        x.numbers(1, 1, 1);
        due("16 bits", x.write(1, 0, 0x12348000L), -32768);
        x.numbers(2, 2, 1);
        due("32 bits", x.write(2, 0, 0x180000000L), -2147483648L);
        x.numbers(3, 3, 1);
        due("64 bits", x.write(3, 0, Long.MIN_VALUE), Long.MIN_VALUE);
        due("0 numbers", x.numbers(3, 3, 0), 0);
        due("no such number", x.write(3, 0, 1), -7);
        DepthBoard y = told("pool 5;goer breath 1;");
        tray(y, 0, 0, 9, 9);
        y.numbers(0, 0, 2);
        due("all 0", y.perform(0), 2);
    }

    private static void lists() {
        about("42 lists");
        DepthBoard x = told(LADDER);
        due("tray first", x.lists(4, 1, 4), -2);
        due("then the thing", x.lists(0, 1, 4), -2);
        due("then it's missing", x.lists(0, 0, 4), -6);
        tray(x, 0, 0, 7, 7, 7, 7, 7, 7);
        due("the set", x.lists(0, 0, 4), -3);
        due("it can't be", x.lists(0, 0, 2), -5);
        due("nothing was written", x.judge(0, 0), 0);
        due("all four", x.lists(0, 0, 3), 4);
        due("the rest stays", x.judge(0, 0), 4);
        due("they do it", x.judge(0, 2), 1);
        tray(x, 1, 0, 7, 7);
        due("as far as there are places", x.lists(1, 0, 3), 2);
        due("these two", x.judge(1, 3), 4);
        tray(x, 2, 3);
        due("no places", x.lists(2, 0, 3), 0);
        x.perform(0);
        due("there already", x.lists(1, 0, 0), 0);
    }

    private static void images() {
        about("43, 44 image, restore");
        DepthBoard x = told(BASE);
        due("image 2", x.image(2), -2);
        due("image -1", x.image(-1), -2);
        due("restore 2", x.restore(2), -2);
        due("restore -1", x.restore(-1), -2);
        due("none was made", x.restore(1), -5);
        x.dive(1);
        x.breath(0, 44);
        x.bold(0, 8);
        due("image", x.image(1), 0);
        due("what was done can still be undone", x.count(6), 3);
        load(x, "pool 9;             ");
        x.pool(20);
        due("image of another pool", x.image(0), 0);
        tray(x, 0, 0, 1);
        load(x, "pool 1 1            ");
        x.pool(20);
        load(x, "pool 1              ");
        due("restore", x.restore(1), 0);
        stands(x, 13, 5, 0);
        due("breath, bold", 10 * x.goer(0, 0) + x.goer(0, 1), 448);
        due("lines", x.count(8), 8);
        due("laws", x.goer(1, 4), 15);
        due("the tape stays", x.count(7), 20);
        due("the fault stays", x.fault(0), 2);
        due("trays stay", x.write(0, 0, 2), 2);
        due("nothing can be undone", x.undo(1), -3);
        due("search", x.soonest(1, 2), 1);
        x.dive(1);
        due("again", x.restore(1), 0);
        stands(x, 13, 5, 0);
        due("the other one", x.restore(0), 0);
        due("goers", x.count(3), 0);
        due("board", x.count(0), 9);
        DepthBoard y = new DepthBoard();
        y.image(0);
        load(y, BASE);
        y.pool(BASE.length());
        due("back to no pool", y.restore(0), 0);
        due("lines", y.count(8), 0);
        due("things", y.count(1), 0);
    }

    private static void count() {
        about("45 count");
        DepthBoard x = told(BASE);
        load(x, "pool 1;");
        x.dive(0);
        int[] want = {7, 3, 5, 3, 4, 10, 1, 20, 8};
        for (int what = 0; what < want.length; what++) due("count(" + what + ")", x.count(what), want[what]);
        due("count(9)", x.count(9), -1);
        due("count(-1)", x.count(-1), -1);
        due("no depth", told("pool 1;").count(5), -1);
        due("depth 0", told("pool 1;thing at 0;").count(5), 0);
    }

    private static void refusedOrder() {
        about("of several codes the first told");
        DepthBoard x = told(BASE);
        due("soonest", x.soonest(9, 99), -2);
        due("way", x.way(9, 99, -1), -2);
        due("rows", x.rows(9, 99), -2);
        due("forces", x.forces(9, 99, 99), -2);
        due("best", x.best(9, 99, 99), -2);
        due("chance", x.chance(0, 9, 9), -2);
        due("numbers", x.numbers(9, 9, 99), -2);
        due("numbers", x.numbers(0, 9, 99), -2);
        due("judge", x.judge(0, 9), -2);
        due("bolds", x.bolds(0, 9), -2);
        tray(x, 0, 3, 500);
        due("whoPosted: all ahead of NONE", x.whoPosted(0, 9), -3);
        due("way: all ahead of NONE", x.way(1, 1, -1), -3);
        stands(x, 4, 4, 0);
    }
}
