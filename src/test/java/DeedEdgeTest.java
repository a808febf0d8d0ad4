/** Promises 5 to 17, the two laws, the DEEDS and what can be UNDONE: each sentence that names an edge. */
public final class DeedEdgeTest extends Due {
    private DeedEdgeTest() { }

    public static void main(String[] args) {
        sumsAreKept();
        lawOfReach();
        lawOfPosts();
        withoutLaws();
        knownAhead();
        ifTellsOneSum();
        guardsAboveBold();
        noDeeperThanTheReach();
        needsThereAhead();
        thing();
        goer();
        shows();
        truthful();
        dive();
        say();
        wipe();
        breath();
        bold();
        tenAreUndone();
        undoneAsAWhole();
        undoBounds();
        whatCanBeUndone();
        deedsInATray();
        judge();
        perform();
        summerTimes();
        summerDraws();
        fiveHundredTwelveCalls();
        end("DeedEdgeTest");
    }

    private static int posts(String law) {
        return told("pool 7;goer breath 1;tells : " + law + ";").goer(0, 4);
    }

    private static void sumsAreKept() {
        about("each + - * is kept from -1,000,000 to 1,000,000");
        String less = " - 999 * 999 - 999 - 950";
        due("+ to 1,000,000", posts("999 * 999 + 999 + 999 + 1" + less), 50);
        due("+ to 1,000,001", posts("999 * 999 + 999 + 999 + 2" + less), 50);
        due("+ to 999,999", posts("999 * 999 + 999 + 999 + 0" + less), 49);
        due("* to 1,000,000", posts("(999 + 1) * (999 + 1)" + less), 50);
        due("* to 1,001,000", posts("(999 + 1) * (999 + 2)" + less), 50);
        due("* to 999,000", posts("(999 + 1) * 999 + 999" + less), 49);
        due("- to 1,000,001", posts("(999 + 1) * (999 + 1) - (0 - 1)" + less), 50);
        String more = " + 999 * 999 + 999 + 999 + 51";
        due("- to -1,000,000", posts("0 - 999 * 999 - 999 - 999 - 1" + more), 50);
        due("- to -1,000,001", posts("0 - 999 * 999 - 999 - 999 - 2" + more), 50);
        due("- to -999,999", posts("0 - 999 * 999 - 999 - 999 - 0" + more), 51);
        due("* to -1,000,000", posts("(0 - 999 - 1) * (999 + 1)" + more), 50);
        due("* to -1,001,000", posts("(0 - 999 - 1) * (999 + 2)" + more), 50);
        due("+ to -1,000,001", posts("(0 - 999 - 1) * (999 + 1) + (0 - 1)" + more), 50);
        String million = "((999 + 1) * (999 + 1))";
        due("* far above", posts(million + " * " + million + less), 50);
        due("* far below", posts("(0 - " + million + ") * " + million + more), 50);
        due("* of two below 0", posts("(0 - " + million + ") * (0 - " + million + ")" + less), 50);
        due("each by itself, from the left", posts(million + " + 900 - 900 - 999 * 999 - 999 - 950 + 900"), 50);
        due("a number compared as it is kept", posts("if " + million + " + 1 = " + million + " then 1 else 2 end"), 1);
    }

    private static int reaches(String law) {
        return told("pool 7;goer breath 50;reaches : " + law + ";").goer(0, 3);
    }

    private static void lawOfReach() {
        about("its REACH: as the law reaches tells, 0 at least, 99 at most");
        due("-1", reaches("0 - 1"), 0);
        due("0", reaches("0"), 0);
        due("1", reaches("1"), 1);
        due("98", reaches("98"), 98);
        due("99", reaches("99"), 99);
        due("100", reaches("100"), 99);
        due("1,000,000", reaches("999 * 999 * 2"), 99);
        due("-1,000,000", reaches("0 - 999 * 999 * 2"), 0);
        due("the law isn't bound by the breath", reaches("breath + 1"), 51);
        DepthBoard x = told("pool 7;goer breath 50;reaches : breath * 3;tells : reach;");
        due("tells knows the reach as it was kept", x.goer(0, 4), 99);
    }

    private static void lawOfPosts() {
        about("it POSTS as the law tells tells, 0 at least, 99 at most");
        due("-1", posts("0 - 1"), 0);
        due("0", posts("0"), 0);
        due("1", posts("1"), 1);
        due("98", posts("98"), 98);
        due("99", posts("99"), 99);
        due("100", posts("100"), 99);
        due("1,000,000", posts("999 * 999 * 2"), 99);
        due("-1,000,000", posts("0 - 999 * 999 * 2"), 0);
        due("a dive, too", told("pool 7;goer breath 1;tells : 100;").dive(0), 99);
    }

    private static void withoutLaws() {
        about("without one: its BREATH; 1 more than the BOARD told");
        DepthBoard x = told("pool 97;goer breath 0;goer breath 99;");
        due("breath 0", x.goer(0, 3), 0);
        due("breath 99", x.goer(1, 3), 99);
        due("98", x.dive(0), 98);
        due("99", x.dive(0), 99);
        due("a board tells no more than 99", x.dive(0), 99);
        due("posts", x.goer(1, 4), 99);
        due("from 0", told("pool 0;goer breath 0;").dive(0), 1);
    }

    private static void knownAhead() {
        about("who, bold, breath, board, things: ahead; reach: its REACH");
        String pool = "pool 9;thing at 5;thing at 5 there;thing at 90 there;goer breath 1;goer breath 20 bold 3;goer breath 30 bold 7;";
        DepthBoard x = told(pool + "reaches : who * 10 + bold + board + things + breath;tells : who * 10 + bold + board + things;");
        due("reaches, goer 0", x.goer(0, 3), 0 + 0 + 9 + 2 + 1);
        due("reaches, goer 2", x.goer(2, 3), 20 + 7 + 9 + 2 + 30);
        due("tells, goer 1", x.goer(1, 4), 10 + 3 + 9 + 2);
        due("a thing that comes by the dive isn't there ahead", x.dive(0), 9 + 2);
        due("now it is", x.goer(0, 4), 11 + 3);
        x.breath(0, 5);
        due("breath as it is now", x.goer(0, 3), 11 + 3 + 5);
        x.bold(0, 4);
        due("bold as it is now", x.goer(0, 3), 4 + 11 + 3 + 5);
        due("no things", told("pool 0;goer breath 1;tells : things;").goer(0, 4), 0);
        due("all six", told("pool 0;" + "thing at 9 there;".repeat(6) + "goer breath 1;tells : things;").goer(0, 4), 6);
        due("reach as the guards leave it", told("pool 0;thing at 4 guard 1 there;goer breath 9;tells : reach;").goer(0, 4), 4);
    }

    private static void ifTellsOneSum() {
        about("if tells the one SUM, if the TRUTH holds, else the other one; = < > at their edges");
        String[] signs = {"=", "<", ">"};
        for (int left = 4; left <= 6; left++) {
            boolean[] holds = {left == 5, left < 5, left > 5};
            for (int i = 0; i < 3; i++) {
                String truth = left + " " + signs[i] + " 5";
                due(truth, posts("if " + truth + " then 11 else 22 end"), holds[i] ? 11 : 22);
                due("not " + truth, posts("if not " + truth + " then 11 else 22 end"), holds[i] ? 22 : 11);
            }
        }
        due("below 0 compared", posts("if 0 - 5 < 0 - 4 then 11 else 22 end"), 11);
        for (int a = 0; a < 2; a++) {
            for (int b = 0; b < 2; b++) {
                String pair = a + "=1 and " + b + "=1";
                due(pair, posts("if " + pair + " then 11 else 22 end"), a + b == 2 ? 11 : 22);
                pair = a + "=1 or " + b + "=1";
                due(pair, posts("if " + pair + " then 11 else 22 end"), a + b > 0 ? 11 : 22);
                for (int c = 0; c < 2; c++) {
                    String three = a + "=1 or " + b + "=1 and " + c + "=1";
                    due(three, posts("if " + three + " then 11 else 22 end"), a + b * c > 0 ? 11 : 22);
                    three = a + "=1 and " + b + "=1 or " + c + "=1";
                    due(three, posts("if " + three + " then 11 else 22 end"), a * b + c > 0 ? 11 : 22);
                    three = "[" + a + "=1 or " + b + "=1] and " + c + "=1";
                    due(three, posts("if " + three + " then 11 else 22 end"), (a + b > 0 ? c : 0) > 0 ? 11 : 22);
                    three = "not " + a + "=1 and " + b + "=1 or not " + c + "=1";
                    due(three, posts("if " + three + " then 11 else 22 end"), (1 - a) * b + 1 - c > 0 ? 11 : 22);
                }
            }
        }
    }

    private static void guardsAboveBold() {
        about("no deeper than the DEPTH of any THING that is THERE and whose guard is above its BOLD");
        for (int guard = 0; guard <= 10; guard++) {
            DepthBoard x = told("pool 0;thing at 5 there guard " + guard + ";goer breath 20;");
            for (int bold = 0; bold <= 9; bold++) {
                x.bold(0, bold);
                due("guard " + guard + ", bold " + bold, x.goer(0, 3), guard > bold ? 5 : 20);
            }
        }
        due("just as deep", told("pool 0;thing at 20 there guard 1;goer breath 20;").goer(0, 3), 20);
        due("1 less deep", told("pool 0;thing at 19 there guard 1;goer breath 20;").goer(0, 3), 19);
        due("deeper", told("pool 0;thing at 21 there guard 1;goer breath 20;").goer(0, 3), 20);
        due("at 0", told("pool 0;thing at 0 there guard 1;goer breath 20;").goer(0, 3), 0);
        due("it isn't there", told("pool 0;thing at 5 guard 10;goer breath 20;").goer(0, 3), 20);
        due("the least deep of several", told("pool 0;thing at 9 there guard 1;thing at 4 there guard 1;thing at 7 there guard 1;goer breath 20;").goer(0, 3), 4);
        due("the least deep one is not above", told("pool 0;thing at 9 there guard 3;thing at 4 there guard 2;goer breath 20 bold 2;").goer(0, 3), 9);
        due("the sixth one", told("pool 0;" + "thing at 9;".repeat(5) + "thing at 3 there guard 1;goer breath 20;").goer(0, 3), 3);
        DepthBoard x = told("pool 0;thing at 5 guard 1;thing at 8;goer breath 20;");
        due("what comes by a dive doesn't guard in it", x.shows(0), 3);
        x.dive(0);
        due("but behind it", x.goer(0, 3), 5);
        x.wipe(0);
        due("not when it is wiped", x.goer(0, 3), 20);
    }

    private static void noDeeperThanTheReach() {
        about("THINGS whose DEPTH is no deeper than the REACH are THERE");
        DepthBoard x = told("pool 0;thing at 9;thing at 10;thing at 11;goer breath 10;");
        due("9, 10, not 11", x.shows(0), 3);
        due("at 0 by a reach of 0", told("pool 0;thing at 0;thing at 1;goer breath 0;").shows(0), 1);
        due("at 99 by a reach of 99", told("pool 0;thing at 98;thing at 99;goer breath 99;").shows(0), 3);
        due("at 99 not by 98", told("pool 0;thing at 98;thing at 99;goer breath 98;").shows(0), 1);
        due("at a guard's depth", told("pool 0;thing at 5 guard 1 there;thing at 5;thing at 6;goer breath 10;").shows(0), 3);
        due("those that are stay, however deep", told("pool 0;thing at 50 there;goer breath 0;").shows(0), 1);
    }

    private static void needsThereAhead() {
        about("all of whose needs were THERE ahead, all at once");
        DepthBoard x = told("pool 0;thing at 1;thing at 1 needs 0;thing at 1 needs 1;thing at 1 needs 0 needs 2;goer breath 1;");
        int[] there = {1, 3, 7, 15, 15};
        for (int i = 0; i < there.length; i++) {
            due("would be behind dive " + i, x.shows(0), there[i]);
            x.dive(0);
            due("is behind dive " + i, x.count(2), there[i]);
        }
        x.wipe(0);
        due("what needs it stays", x.count(2), 14);
        x.wipe(3);
        due("3 needs 0 ahead", x.shows(0), 7);
        due("one of two needs isn't enough", told("pool 0;thing at 1 there;thing at 9;thing at 1 needs 0 needs 1;goer breath 1;").shows(0), 1);
        due("by what is said as well", sayThings(), 1);
    }

    private static int sayThings() {
        DepthBoard x = told("pool 0;thing at 1;thing at 1 needs 0;goer breath 1;");
        x.say(0, 9);
        return x.count(2);
    }

    private static void thing() {
        about("thing: what 0 to 3; -2");
        DepthBoard x = told("pool 0;thing at 1;thing at 2;thing at 3 guard 4 needs 0 needs 1 there;goer breath 5;");
        int[] want = {3, 4, 3, 1};
        for (int what = 0; what < 4; what++) due("thing(2, " + what + ")", x.thing(2, what), want[what]);
        for (int what : new int[] {-1, 4, Integer.MIN_VALUE, Integer.MAX_VALUE}) due("thing(2, " + what + ")", x.thing(2, what), -2);
        for (int t : new int[] {-1, 3, 6, Integer.MIN_VALUE, Integer.MAX_VALUE}) due("thing(" + t + ", 0)", x.thing(t, 0), -2);
        x.wipe(2);
        due("it is there no more", x.thing(2, 3), 0);
    }

    private static void goer() {
        about("goer: what 0 to 4; -2");
        DepthBoard x = told("pool 6;thing at 4 guard 3 there;thing at 4;goer breath 7;goer breath 8 bold 2 odds 9;");
        int[] want = {8, 2, 9, 4, 7};
        for (int what = 0; what < 5; what++) due("goer(1, " + what + ")", x.goer(1, what), want[what]);
        for (int what : new int[] {-1, 5, Integer.MIN_VALUE, Integer.MAX_VALUE}) due("goer(1, " + what + ")", x.goer(1, what), -2);
        for (int g : new int[] {-1, 2, 6, Integer.MIN_VALUE, Integer.MAX_VALUE}) {
            for (int what = 0; what < 5; what++) due("goer(" + g + ", " + what + ")", x.goer(g, what), -2);
        }
        stands(x, 6, 1, 0);
    }

    private static void shows() {
        about("shows: -2; nothing is done by it");
        DepthBoard x = told("pool 6;thing at 4;goer breath 7;goer breath 1;");
        due("shows(0)", x.shows(0), 1);
        due("shows(1)", x.shows(1), 0);
        for (int g : new int[] {-1, 2, 6, Integer.MIN_VALUE, Integer.MAX_VALUE}) due("shows(" + g + ")", x.shows(g), -2);
        stands(x, 6, 0, 0);
    }

    private static void truthful() {
        about("truthful: GOERS who would POST just their REACH");
        due("no goers", told("pool 0;").truthful(), 0);
        due("1 less, just, 1 more", told("pool 4;goer breath 4;goer breath 5;goer breath 6;").truthful(), 2);
        due("all six", told("pool 0;" + "goer breath 3;".repeat(6) + "tells : reach;").truthful(), 63);
        due("99 of 99", told("pool 99;goer breath 99;goer breath 98;").truthful(), 1);
        due("the reach as guards leave it", told("pool 4;thing at 5 guard 1 there;goer breath 9;goer breath 9 bold 1;").truthful(), 1);
    }

    private static void dive() {
        about("dive: -11");
        DepthBoard x = told("pool 6;thing at 4;goer breath 7;goer breath 1;");
        for (int g : new int[] {-1, 2, 6, Integer.MIN_VALUE, Integer.MAX_VALUE}) due("dive(" + g + ")", x.dive(g), -11);
        stands(x, 6, 0, 0);
        due("the last one", x.dive(1), 7);
        due("the first one", x.dive(0), 8);
        stands(x, 8, 1, 2);
    }

    private static void say() {
        about("say: 0 to 99, no less than its REACH; -11, -12");
        DepthBoard x = told("pool 6;thing at 4;goer breath 7;goer breath 0;goer breath 99;");
        due("its reach less 1", x.say(0, 6), -12);
        due("0", x.say(0, 0), -12);
        for (int n : new int[] {-1, 100, Integer.MIN_VALUE, Integer.MAX_VALUE}) due("say(0, " + n + ")", x.say(0, n), -11);
        for (int g : new int[] {-1, 3, 6, Integer.MIN_VALUE, Integer.MAX_VALUE}) due("say(" + g + ", 99)", x.say(g, 99), -11);
        due("no goer ahead of the number", x.say(3, 0), -11);
        due("98 of 99", x.say(2, 98), -12);
        stands(x, 6, 0, 0);
        due("its reach", x.say(0, 7), 7);
        stands(x, 7, 1, 1);
        due("99", x.say(0, 99), 7);
        stands(x, 99, 1, 2);
        due("0 of 0", x.say(1, 0), 0);
        stands(x, 0, 1, 3);
        due("99 of 99", x.say(2, 99), 99);
        stands(x, 99, 1, 4);
        DepthBoard y = told("pool 6;thing at 4 guard 1 there;goer breath 9;tells : 50;");
        due("less than the reach that guards leave", y.say(0, 3), -12);
        due("just that", y.say(0, 4), 4);
        due("the law tells doesn't matter", y.count(0), 4);
    }

    private static void wipe() {
        about("wipe: -11, -12 it isn't THERE");
        DepthBoard x = told("pool 6;thing at 4 there;thing at 5;thing at 6 there;goer breath 1;");
        for (int t : new int[] {-1, 3, 6, Integer.MIN_VALUE, Integer.MAX_VALUE}) due("wipe(" + t + ")", x.wipe(t), -11);
        due("not there", x.wipe(1), -12);
        stands(x, 6, 5, 0);
        due("the last one", x.wipe(2), 1);
        due("again", x.wipe(2), -12);
        due("the first one", x.wipe(0), 0);
        stands(x, 6, 0, 2);
        DepthBoard six = told("pool 6;" + "thing at 4 there;".repeat(6));
        due("wipe(6)", six.wipe(6), -11);
        due("wipe(5)", six.wipe(5), 5);
        due("without things", told("pool 6;").wipe(0), -11);
    }

    private static void breath() {
        about("breath: 0 to 99; -11");
        DepthBoard x = told("pool 6;goer breath 7;goer breath 8;");
        for (int n : new int[] {-1, 100, Integer.MIN_VALUE, Integer.MAX_VALUE}) due("breath(0, " + n + ")", x.breath(0, n), -11);
        for (int g : new int[] {-1, 2, 6, Integer.MIN_VALUE, Integer.MAX_VALUE}) due("breath(" + g + ", 5)", x.breath(g, 5), -11);
        due("it stays", x.goer(0, 0), 7);
        stands(x, 6, 0, 0);
        due("0", x.breath(1, 0), 8);
        due("99", x.breath(1, 99), 0);
        due("it is", x.goer(1, 0), 99);
        due("the other one's stays", x.goer(0, 0), 7);
        stands(x, 6, 0, 2);
    }

    private static void bold() {
        about("bold: 0 to 9; -11");
        DepthBoard x = told("pool 6;goer breath 7 bold 5;goer breath 8;");
        for (int n : new int[] {-1, 10, Integer.MIN_VALUE, Integer.MAX_VALUE}) due("bold(0, " + n + ")", x.bold(0, n), -11);
        for (int g : new int[] {-1, 2, 6, Integer.MIN_VALUE, Integer.MAX_VALUE}) due("bold(" + g + ", 5)", x.bold(g, 5), -11);
        due("it stays", x.goer(0, 1), 5);
        stands(x, 6, 0, 0);
        due("9", x.bold(0, 9), 5);
        due("0", x.bold(0, 0), 9);
        due("it is", x.goer(0, 1), 0);
        due("the other one's stays", x.goer(1, 1), 0);
        stands(x, 6, 0, 2);
    }

    private static void tenAreUndone() {
        about("calls can be UNDONE, the latest first, 10 at most (eldest are forgotten)");
        DepthBoard x = told("pool 0;goer breath 7;");
        for (int i = 1; i <= 13; i++) {
            x.dive(0);
            due("how many can be behind " + i, x.count(6), Math.min(i, 10));
        }
        for (int i = 1; i <= 10; i++) {
            due("undo " + i, x.undo(1), 10 - i);
            due("the board", x.count(0), 13 - i);
        }
        due("the eleventh is forgotten", x.undo(1), -3);
        due("the board stays", x.count(0), 3);
        for (int round = 0; round < 7; round++) {
            for (int i = 0; i < 10; i++) x.dive(0);
            due("ten again", x.count(6), 10);
            due("undo(10)", x.undo(10), 0);
            due("the board", x.count(0), 3);
            x.dive(0);
            x.dive(0);
            x.undo(1);
            due("one less", x.count(6), 1);
            x.undo(1);
            due("the board", x.count(0), 3);
        }
    }

    private static void undoneAsAWhole() {
        about("BOARD, THINGS, BREATHS, BOLD are brought back");
        DepthBoard x = told("pool 2;thing at 3;thing at 1 there;goer breath 5 bold 1;goer breath 6 bold 2;");
        x.breath(0, 9);
        x.breath(1, 8);
        x.bold(0, 7);
        x.bold(1, 6);
        x.dive(1);
        x.wipe(1);
        x.say(0, 40);
        stands(x, 40, 3, 7);
        due("the say", x.undo(1), 6);
        stands(x, 3, 1, 6);
        due("the wipe", x.undo(1), 5);
        stands(x, 3, 3, 5);
        due("the dive", x.undo(1), 4);
        stands(x, 2, 2, 4);
        due("two times bold", x.undo(2), 2);
        due("bold 0", x.goer(0, 1), 1);
        due("bold 1", x.goer(1, 1), 2);
        due("breath 0 still", x.goer(0, 0), 9);
        due("two times breath", x.undo(2), 0);
        due("breath 0", x.goer(0, 0), 5);
        due("breath 1", x.goer(1, 0), 6);
        tray(x, 0, 2, 3007, 3019, 1099, 2001, 1);
        due("perform", x.perform(0), 5);
        due("one call", x.undo(1), 0);
        stands(x, 2, 2, 0);
        due("bold 0", x.goer(0, 1), 1);
        due("bold 1", x.goer(1, 1), 2);
    }

    private static void undoBounds() {
        about("n calls (1 to 10); -3: n, more than can be");
        DepthBoard x = told("pool 0;goer breath 7;");
        due("1 of none", x.undo(1), -3);
        for (int i = 0; i < 4; i++) x.dive(0);
        for (int n : new int[] {0, -1, 5, 10, 11, Integer.MIN_VALUE, Integer.MAX_VALUE}) {
            due("undo(" + n + ") of 4", x.undo(n), -3);
            stands(x, 4, 0, 4);
        }
        due("all 4", x.undo(4), 0);
        stands(x, 0, 0, 0);
        for (int i = 0; i < 12; i++) x.dive(0);
        due("11", x.undo(11), -3);
        due("12", x.undo(12), -3);
        stands(x, 12, 0, 10);
        due("10", x.undo(10), 0);
        stands(x, 2, 0, 0);
    }

    private static void whatCanBeUndone() {
        about("calls that did some can be UNDONE");
        DepthBoard x = told("pool 99;thing at 9;goer breath 7 bold 3;");
        x.dive(0);
        due("a dive that changed nothing", x.count(6), 1);
        x.breath(0, 7);
        due("the breath it had", x.count(6), 2);
        x.bold(0, 3);
        due("as bold as it was", x.count(6), 3);
        x.say(0, 99);
        due("what the board told", x.count(6), 4);
        tray(x, 0, 0, 0, 77);
        x.perform(0);
        due("performed in part", x.count(6), 5);
        x.undo(1);
        due("undone", x.count(6), 4);
        about("calls that did none can't");
        x.dive(1);
        x.say(0, 1);
        x.wipe(0);
        x.wipe(1);
        x.breath(0, 100);
        x.bold(0, 10);
        x.undo(0);
        x.summer(1, 0);
        tray(x, 0, 0, 77, 0);
        x.perform(0);
        x.numbers(0, 0, 0);
        x.perform(0);
        x.judge(0, 0);
        x.lists(0, 0, 1);
        x.image(0);
        due("none of these", x.count(6), 4);
        due("a summer where nothing could be", told("pool 1;").summer(3, 40), 0);
        DepthBoard y = told("pool 1;goer breath 1;");
        // From 0 on the draws modulo 6 are 0, 2: there is no goer 2.
        due("a summer of nothing", y.summer(0, 1), 0);
        due("it can't be undone", y.count(6), 0);
    }

    private static int why(DepthBoard x, long deed) {
        tray(x, 3, 3, deed);
        return x.judge(3, 1);
    }

    private static void deedsInATray() {
        about("DEEDS in a TRAY: 0 to 9, 1000 to 1999, 2000 to 2009, 3000 to 3099; others: 1");
        DepthBoard x = told("pool 0;" + "thing at 50 there;".repeat(6) + "goer breath 0;".repeat(5) + "goer breath 99;");
        long[] done = {0, 5, 1000, 1099, 1100, 1499, 1599, 2000, 2005, 3000, 3009, 3010, 3059};
        for (long v : done) due("deed " + v, why(x, v), 0);
        long[] not = {-1, 6, 9, 10, 11, 99, 100, 999, 1600, 1699, 1999, 2006, 2009, 2010, 2999, 3060, 3099, 3100, 3999, 10000, -1000,
            Integer.MIN_VALUE, Integer.MAX_VALUE, Long.MIN_VALUE, Long.MAX_VALUE, 1L << 32, (1L << 32) + 1000, -(1L << 32)};
        for (long v : not) due("deed " + v, why(x, v), 1);
        due("less than its reach: 1598", why(x, 1598), 2);
        due("less than its reach: 1500", why(x, 1500), 2);
        x.wipe(5);
        due("2005 isn't there", why(x, 2005), 2);
        due("2004 is", why(x, 2004), 0);
        about("what a DEED does");
        long[] deeds = {5, 1034, 1234, 2003, 3048, 3050};
        int[] boards = {1, 34, 34, 0, 0, 0};
        for (int i = 0; i < deeds.length; i++) {
            tray(x, 0, 2, deeds[i]);
            due("perform " + deeds[i], x.perform(0), 1);
            if (boards[i] > 0) due("the board", x.count(0), boards[i]);
        }
        due("goer 5 was down at 99", x.count(2), 63 - 8);
        due("goer 4 is 8 bold", x.goer(4, 1), 8);
        due("goer 5 is 0 bold", x.goer(5, 1), 0);
    }

    private static void judge() {
        about("judge: the first place that can't be (NONE), why (0); -2: the TRAY, what; -6");
        DepthBoard x = told("pool 0;thing at 5;goer breath 6;");
        for (int tray : new int[] {-1, 4, Integer.MIN_VALUE, Integer.MAX_VALUE}) due("tray " + tray, x.judge(tray, 0), -2);
        for (int what : new int[] {-1, 4, Integer.MIN_VALUE, Integer.MAX_VALUE}) due("missing, what " + what, x.judge(0, what), -2);
        for (int tray = 0; tray < 4; tray++) {
            for (int what = 0; what < 4; what++) due("missing", x.judge(tray, what), -6);
        }
        x.numbers(0, 0, 0);
        long[] empty = {-1, 0, 0, 0};
        for (int what = 0; what < 4; what++) due("empty, what " + what, x.judge(0, what), empty[what]);
        tray(x, 3, 1, 0, 2000, 2000, 0);
        long[] third = {2, 2, 0, 1};
        for (int what = 0; what < 4; what++) due("the third can't be, what " + what, x.judge(3, what), third[what]);
        tray(x, 3, 1, 1, 0);
        long[] first = {0, 1, 0, 0};
        for (int what = 0; what < 4; what++) due("the first can't be, what " + what, x.judge(3, what), first[what]);
        tray(x, 3, 1, 0, 0, 1);
        long[] last = {2, 1, 1, 2};
        for (int what = 0; what < 4; what++) due("the last can't be, what " + what, x.judge(3, what), last[what]);
        x.numbers(2, 3, 40);
        long[] full = {-1, 0, 1, 40};
        for (int what = 0; what < 4; what++) due("forty dives, what " + what, x.judge(2, what), full[what]);
        x.write(2, 39, 1);
        due("the fortieth can't be", x.judge(2, 0), 39);
        due("why", x.judge(2, 1), 1);
        stands(x, 0, 0, 0);
    }

    private static void perform() {
        about("perform: till one can't be: how many; -2; -6");
        DepthBoard x = told("pool 0;thing at 5;goer breath 6;");
        for (int tray : new int[] {-1, 4, Integer.MIN_VALUE, Integer.MAX_VALUE}) due("tray " + tray, x.perform(tray), -2);
        for (int tray = 0; tray < 4; tray++) due("missing", x.perform(tray), -6);
        x.numbers(0, 0, 0);
        due("empty", x.perform(0), 0);
        tray(x, 0, 1, 1, 0);
        due("the first can't be", x.perform(0), 0);
        stands(x, 0, 0, 0);
        tray(x, 0, 1, 0, 0, 1, 0);
        due("the third can't be", x.perform(0), 2);
        stands(x, 2, 1, 1);
        x.numbers(0, 1, 40);
        due("forty", x.perform(0), 40);
        stands(x, 42, 1, 2);
        due("the tray stays", x.perform(0), 40);
        stands(x, 82, 1, 3);
    }

    private static void summerTimes() {
        about("so many times (1 to 40); -3: how many times");
        DepthBoard x = told("pool 0;thing at 5 there;goer breath 6;");
        for (int times : new int[] {0, -1, 41, Integer.MIN_VALUE, Integer.MAX_VALUE}) due("times " + times, x.summer(1, times), -3);
        stands(x, 0, 1, 0);
    }

    private static int seed;

    private static int draw(int modulo) {
        seed = seed * 1103515245 + 12345;
        return (seed >>> 16) % modulo;
    }

    /** A summer on one object, and its draws one by one on another. */
    private static void summerDraws() {
        about("a SUMMER by a SEED, as in a TRAY, if it can be");
        String pool = "pool 3;thing at 4;thing at 2 guard 2 there;thing at 6 needs 0;goer breath 7 bold 1;goer breath 3;goer breath 9 bold 9;goer breath 2;"
            + "tells : if board > 40 then who else board + reach end;";
        int[] seeds = {0, 1, -1, 42395, Integer.MIN_VALUE, Integer.MAX_VALUE, 123456789, -987654321};
        for (int from : seeds) {
            for (int times : new int[] {1, 2, 7, 39, 40}) {
                DepthBoard x = told(pool);
                DepthBoard y = told(pool);
                seed = from;
                int could = 0;
                for (int i = 0; i < times; i++) {
                    int kind = draw(6);
                    int who = draw(6);
                    int answer = kind < 4 ? y.dive(who) : kind == 4 ? y.wipe(who) : y.bold(who, draw(10));
                    if (answer >= 0) could++;
                }
                due("summer(" + from + ", " + times + ")", x.summer(from, times), could);
                due("board", x.count(0), y.count(0));
                due("things", x.count(2), y.count(2));
                for (int g = 0; g < 4; g++) due("bold", x.goer(g, 1), y.goer(g, 1));
                due("one call at most", x.count(6), could > 0 ? 1 : 0);
                if (could > 0) {
                    due("undone as a whole", x.undo(1), 0);
                    stands(x, 3, 2, 0);
                    due("bold as it was", x.goer(0, 1), 1);
                }
            }
        }
    }

    private static void fiveHundredTwelveCalls() {
        about("an object is used for at most 512 calls");
        String text = "pool 3;thing at 4;goer breath 4;";
        DepthBoard x = told(text);
        int calls = 3;
        for (; calls < 511; calls++) x.dive(0);
        due("the board in the 512th", x.count(0), 99);
        DepthBoard y = told(text);
        for (calls = 3; calls < 509; calls++) y.bold(0, calls % 10);
        due("the 510th", y.soonest(0, 1), 1);
        due("the 511th", y.undo(10), 0);
        due("the 512th: as bold as the 499th left it", y.goer(0, 1), 8);
        DepthBoard z = new DepthBoard();
        for (calls = 0; calls < 510; calls += 3) due("three calls, again and again", tell(z, text), 3);
        due("the 511th", z.dive(0), 4);
        due("the 512th", z.count(2), 1);
    }
}
