import java.util.List;

/** Promises 2 to 4 and the text of THE POOL: each sentence that names an edge, with the last that is taken and the first that isn't. */
public final class TextEdgeTest extends Due {
    private static final String SIX_THINGS = "thing at 1;".repeat(6);
    private static final String SIX_GOERS = "goer breath 1;".repeat(6);

    private TextEdgeTest() { }

    public static void main(String[] args) {
        withoutAText();
        feedsUpTo900();
        feedsHighestFirst();
        poolTakesWhatThereIs();
        poolEmptiesTheTape();
        nothingCanBeUndone();
        allStaysWithAFault();
        faultOfTheLatestRead();
        textsOf900();
        linesAreCounted();
        everyEnd();
        everyByte();
        blanks();
        tokensGoOn();
        digits();
        boardBounds();
        depthBounds();
        guardBounds();
        needsBounds();
        thereIsThere();
        sixThings();
        breathBounds();
        boldBounds();
        oddsBounds();
        sixGoers();
        laterLawsStrike();
        lawNumbersHaveNoBounds();
        poolFirstAndOnce();
        wordsOfTheOtherLaw();
        wordsOutOfPlace();
        sixWithinOneAnother();
        theFirstAlongTheText();
        theLeastKind();
        end("TextEdgeTest");
    }

    private static void withoutAText() {
        about("without one: the BOARD tells 0, no THINGS, no GOERS");
        DepthBoard x = new DepthBoard();
        int[] counts = {0, 0, 0, 0, 0, -1, 0, 0, 0};
        for (int what = 0; what < counts.length; what++) due("count(" + what + ")", x.count(what), counts[what]);
        due("thing(0, 0)", x.thing(0, 0), -2);
        due("goer(0, 0)", x.goer(0, 0), -2);
        due("truthful()", x.truthful(), 0);
        due("fault(0)", x.fault(0), 0);
        due("fault(1)", x.fault(1), -1);
        due("summer(1, 40)", x.summer(1, 40), 0);
        x.numbers(0, 0, 1);
        due("judge(0, 1)", x.judge(0, 1), 1);
        due("posted(0)", x.posted(0), 0);
        due("whoPosted(0, 0)", x.whoPosted(0, 0), -1);
        due("suspects(0)", x.suspects(0), 0);
        due("power(0, 0)", x.power(0, 0), 0);
        due("likeliest(6)", x.likeliest(6), -1);
    }

    private static void feedsUpTo900() {
        about("-5: it would have more than 900");
        DepthBoard x = new DepthBoard();
        due("the tape at first", x.count(7), 0);
        for (int i = 1; i <= 45; i++) due("feed " + i, x.feed(0x20202020, 0x20202020, 0x20202020, 0x20202020, 0x20202020), 20 * i);
        for (int i = 0; i < 2; i++) {
            due("feed 46", x.feed(0x3f3f3f3f, 0, 0, 0, 0), -5);
            due("the tape stays", x.count(7), 900);
        }
        due("nothing came behind the 900", x.pool(901), -3);
        due("all were blanks", x.pool(900), -32);
        due("at their end", x.fault(1), 900);
        due("feed from the first on again", x.feed(0, 0, 0, 0, 0), 20);
    }

    private static void feedsHighestFirst() {
        about("twenty bytes come behind those on THE TAPE, the highest of each int first");
        DepthBoard x = new DepthBoard();
        // "pool 12;goer breath " and "34 bold 5 odds 6;   "
        x.feed(0x706f6f6c, 0x2031323b, 0x676f6572, 0x20627265, 0x61746820);
        due("feed", x.feed(0x33342062, 0x6f6c6420, 0x35206f64, 0x64732036, 0x3b202020), 40);
        due("pool(37)", x.pool(37), 2);
        due("board", x.count(0), 12);
        due("breath", x.goer(0, 0), 34);
        due("bold", x.goer(0, 1), 5);
        due("odds", x.goer(0, 2), 6);
        about("bytes of ints with a sign");
        x.feed(0x706f6f6c, 0x20313b80, 0xff000000, -1, Integer.MIN_VALUE);
        due("pool(8)", x.pool(8), -31);
        due("place", x.fault(1), 7);
    }

    private static void poolTakesWhatThereIs() {
        about("-3: n is below 0 or above what there is (THE TAPE stays)");
        DepthBoard x = told("pool 5;");
        due("1 of an empty tape", x.pool(1), -3);
        due("-1 of an empty tape", x.pool(-1), -3);
        load(x, "pool 6;goer breath 1; pool 8;");
        for (int n : new int[] {-1, Integer.MIN_VALUE, 41, 60, 900, Integer.MAX_VALUE}) {
            due("pool(" + n + ")", x.pool(n), -3);
            due("the tape stays", x.count(7), 40);
            due("the board stays", x.count(0), 5);
            due("the latest fault stays", x.fault(0), 0);
        }
        due("the whole of it", x.pool(40), -32);
        due("the second pool", x.fault(1), 22);
        load(x, "pool 6;goer breath 1; pool 8;");
        due("its first 21", x.pool(21), 2);
        due("board", x.count(0), 6);
        load(x, "pool 7;");
        due("0 of it", x.pool(0), -32);
        due("the end of none", x.fault(1), 0);
        due("0 of an empty tape", x.pool(0), -32);
        due("the board stays", x.count(0), 6);
    }

    private static void poolEmptiesTheTape() {
        about("THE TAPE is empty then");
        DepthBoard x = new DepthBoard();
        load(x, "pool 6;goer breath 1;");
        due("pool(7)", x.pool(7), 1);
        due("what was behind it is gone, too", x.count(7), 0);
        load(x, "thing at 1;");
        due("pool(20)", x.pool(20), -32);
        due("with a fault, too", x.count(7), 0);
        load(x, "pool 8;");
        due("from its first byte on", x.count(7), 20);
        due("pool(20)", x.pool(20), 1);
        due("board", x.count(0), 8);
        load(x, "pool 9;");
        x.pool(0);
        due("with no bytes read, too", x.count(7), 0);
    }

    private static void nothingCanBeUndone() {
        about("pool: nothing can be UNDONE");
        DepthBoard x = told("pool 1;goer breath 1;");
        x.dive(0);
        x.dive(0);
        tell(x, "pool 1;goer breath 1;");
        stands(x, 1, 0, 0);
        due("undo(1)", x.undo(1), -3);
        due("the same text begins anew", x.dive(0), 2);
        due("this one can be", x.undo(1), 0);
    }

    private static void allStaysWithAFault() {
        about("all stays with a FAULT");
        String[] faulty = {"pool 9;thing at 9;goer breath 9;?", "pool 9;thing at 9;goer breath 9;pool", "pool 9;goer breath 9;thing at 100",
            "pool 9;" + SIX_GOERS + "goer", "pool 9;goer breath 9;tells : 5;reaches : 5;tells : ("};
        for (int kind = 0; kind < faulty.length; kind++) {
            DepthBoard x = told("pool 3;thing at 2 guard 1 there;goer breath 4 bold 5 odds 6;goer breath 7;tells : board + 2;");
            x.breath(0, 8);
            x.dive(0);
            x.image(0);
            due("pool", tell(x, faulty[kind]), -31 - Math.min(kind, 3) + (kind == 4 ? 2 : 0));
            stands(x, 5, 1, 2);
            due("breath", x.goer(0, 0), 8);
            due("bold", x.goer(0, 1), 5);
            due("odds", x.count(4), 7);
            due("the law", x.goer(0, 4), 7);
            due("no law reaches", x.goer(0, 3), 8);
            due("lines", x.count(8), 5);
            due("undo", x.undo(2), 0);
            due("breath", x.goer(0, 0), 4);
            due("the image", x.restore(0), 0);
            due("the image's board", x.count(0), 5);
        }
    }

    private static void faultOfTheLatestRead() {
        about("of the latest pool() that was read: its FAULT (0), its place (NONE); NONE for others");
        DepthBoard x = new DepthBoard();
        due("none was read: fault(0)", x.fault(0), 0);
        due("none was read: fault(1)", x.fault(1), -1);
        tell(x, "pool 100;");
        due("pool(1) wasn't read", x.pool(1), -3);
        due("fault(0)", x.fault(0), 3);
        due("fault(1)", x.fault(1), 5);
        for (int what : new int[] {-1, 2, 3, Integer.MIN_VALUE, Integer.MAX_VALUE}) due("fault(" + what + ")", x.fault(what), -1);
        tell(x, "pool 99;");
        due("a good one: fault(0)", x.fault(0), 0);
        due("a good one: fault(1)", x.fault(1), -1);
        tell(x, "?");
        due("a place of 0: fault(1)", x.fault(1), 0);
        due("fault(0)", x.fault(0), 1);
    }

    private static String filled(String front, String again, String back, int length) {
        StringBuilder text = new StringBuilder(front);
        while (text.length() + again.length() + back.length() <= length) text.append(again);
        while (text.length() + back.length() < length) text.append(' ');
        return text.append(back).toString();
    }

    private static void textsOf900() {
        about("a TEXT of at most 900 bytes");
        reads(filled("pool 7;", " ", "goer breath 1;", 900), 0, 2);
        reads(filled("pool 7;", " ", "goer breath 1;", 900).substring(0, 899), 2, 899);
        reads(filled("pool 7;", " ", "goer breath 1?", 900), 1, 899);
        reads(filled("", " ", "pool 7;", 900), 0, 1);
        reads(filled("pool 7;", "tells:1;", "", 900), 0, 112);
        reads(filled("", "x", "", 900), 2, 0);
        reads(filled("", "1", "", 900), 1, 0);
        reads(filled("pool 7;thing at 0;thing at 0", " needs 0", ";", 900), 0, 3);
        reads(filled("pool 7;thing at 0", " there", ";", 900), 0, 2);
        reads(filled("pool 7;goer breath 0", " bold 9", ";", 900), 0, 2);
        due("the longest sum", told(filled("pool 7;goer breath 0;tells:0", "+0", "+8;", 900)).dive(0), 8);
        due("the longest sum, taken off", told(filled("pool 7;goer breath 0;tells:900", "-2", "-1;", 900)).dive(0), 900 - 2 * 433 - 1);
        due("the longest product", told(filled("pool 7;goer breath 0;tells:7", "*1", "*3;", 900)).dive(0), 21);
        String and = filled("pool 7;goer breath 0;tells:if 1=1", " and 1=1", " and 1=2 then 3 else 4 end;", 900);
        due("the longest truth, and", told(and).dive(0), 4);
        String or = filled("pool 7;goer breath 0;tells:if 1=2", " or 1=2", " or 1=1 then 3 else 4 end;", 900);
        due("the longest truth, or", told(or).dive(0), 3);
        String six = "1-(1-(1-(1-(1-(1-(1))))))";
        due("brackets side by side", told(filled("pool 7;goer breath 0;tells:0", "+" + six, "+3;", 900)).dive(0), 36);
    }

    private static void linesAreCounted() {
        about("how many LINES (pool, too)");
        reads("pool 1;", 0, 1);
        reads("pool 1;" + SIX_THINGS + SIX_GOERS, 0, 13);
        reads("pool 1;reaches : 1;reaches : 2;tells : 1;tells : 2;", 0, 5);
        reads("pool 1;tells : 1;goer breath 1;thing at 1;reaches : 1;goer breath 2;thing at 1 needs 0;", 0, 7);
        DepthBoard x = told("pool 1;goer breath 1;tells : 1;");
        due("count(8)", x.count(8), 3);
        tell(x, "pool 1;");
        due("count(8) of another one", x.count(8), 1);
    }

    /** One text with all that can stand in it, cut behind each of its tokens. */
    private static void everyEnd() {
        about("the end can't stand there: its place is the text's length");
        String whole = "pool 12 ; thing at 3 guard 4 there guard 5 ; thing at 6 needs 0 there ; goer breath 7 bold 8 odds 9 ; goer breath 1 odds 2 bold 3 ; "
            + "reaches : 1 + ( who * 2 - breath ) * if not bold = 1 and [ board < 2 or things > 3 ] then who else breath end - 4 ; "
            + "tells : reach * ( 1 ) ;";
        String[] tokens = whole.split(" ");
        StringBuilder text = new StringBuilder();
        int lines = 0;
        for (String token : tokens) {
            text.append(token);
            boolean line = token.equals(";");
            if (line) lines++;
            reads(text.toString(), line ? 0 : 2, line ? lines : text.length());
            text.append(' ');
            reads(text.toString(), line ? 0 : 2, line ? lines : text.length());
            text.append("\n ");
            reads(text.toString(), line ? 0 : 2, line ? lines : text.length());
        }
        due("lines", lines, 7);
    }

    private static void everyByte() {
        about("TOKENS begin with small letters, digits, the signs ; : + - * ( ) [ ] = < >; between them 10, 32");
        String signs = ";:+-*()[]=<>";
        for (int c = 0; c < 256; c++) {
            boolean begins = c >= 'a' && c <= 'z' || c >= '0' && c <= '9' || signs.indexOf(c) >= 0;
            boolean blank = c == 10 || c == 32;
            String text = "pool 1;" + (char) c;
            reads(text, blank ? 0 : begins ? 2 : 1, blank ? 1 : 7);
            reads(text + ";", blank || begins ? 2 : 1, blank ? 8 : 7);
        }
        about("a byte ends a TOKEN that isn't of it");
        for (int c = 0; c < 256; c++) {
            boolean letter = c >= 'a' && c <= 'z';
            boolean digit = c >= '0' && c <= '9';
            boolean begins = letter || digit || signs.indexOf(c) >= 0;
            boolean blank = c == 10 || c == 32;
            // Behind a word a letter makes another word; behind it a digit is the number that may stand there.
            reads("pool" + (char) c, letter || digit || blank || begins ? 2 : 1, letter ? 0 : digit || blank ? 5 : 4);
            reads("pool 1" + (char) c, c == ';' ? 0 : letter || digit || blank || begins ? 2 : 1, c == ';' ? 1 : digit || blank ? 7 : 6);
        }
    }

    private static void blanks() {
        about("between them blanks (10, 32)");
        reads(" pool 1;", 0, 1);
        reads("\n\n  pool\n\n1 \n ; \n", 0, 1);
        reads("pool 1;thing at 1 guard 2 there;goer breath 3 bold 4 odds 5;tells : 1 ;", 0, 4);
        reads("pool1;thing at1guard2there;goer breath3bold4odds5;tells:1;", 0, 4);
        reads("pool1;tells:if 1=1and 2<3or 4>5then 6else 7end;", 0, 2);
        reads("pool\t1;", 1, 4);
        reads("pool\r1;", 1, 4);
        reads("pool 1;\r\n", 1, 7);
        reads("pool\u00a01;", 1, 4);
        reads("po ol 1;", 2, 0);
        reads("pool 1 2;", 2, 7);
        reads("pool 1\n2;", 2, 7);
        reads("pool 1;go er breath 1;", 2, 7);
    }

    private static void tokensGoOn() {
        about("TOKENS, as long as they go on");
        reads("poolpool 1;", 2, 0);
        reads("pools 1;", 2, 0);
        reads("poo 1;", 2, 0);
        reads("pool 1;thingat 1;", 2, 7);
        reads("pool 1;thing att 1;", 2, 13);
        reads("pool 1;thing a 1;", 2, 13);
        reads("pool 1;thing at 1 therethere;", 2, 18);
        reads("pool 1;thing at 1 therethe;", 2, 18);
        reads("pool 1;goer breaths 1;", 2, 12);
        reads("pool 1;goer breath 1 bolds 1;", 2, 21);
        reads("pool 1;goer breath 1 odd 1;", 2, 21);
        reads("pool 1;tells : thing;", 2, 15);
        reads("pool 1;tells : reaches;", 2, 15);
        reads("pool 1;tells : boards;", 2, 15);
        reads("pool 1;tells : whoo;", 2, 15);
        reads("pool 1;tell : 1;", 2, 7);
        reads("pool 1;reach : 1;", 2, 7);
        reads("pool 1;tells :: 1;", 2, 14);
        reads("pool 1;tells : if 1 == 1 then 1 else 1 end;", 2, 21);
        reads("pool 1;tells : if 1 <> 1 then 1 else 1 end;", 2, 21);
        reads("pool 1;tells : 1 ** 1;", 2, 18);
    }

    private static void digits() {
        about("N (1 to 3 digits); 4 digits and more: at their first");
        reads("pool 9;", 0, 1);
        reads("pool 09;", 0, 1);
        reads("pool 099;", 0, 1);
        reads("pool 0099;", 1, 5);
        reads("pool 0000;", 1, 5);
        reads("pool 00000000000000000000000000000000000009;", 1, 5);
        reads("pool 4294967296;", 1, 5);
        reads("pool ;", 2, 5);
        due("007 is 7", told("pool 007;").count(0), 7);
        due("000 is 0", told("pool 000;").count(0), 0);
        reads("pool 1;goer breath 1 bold 0001;", 1, 26);
        reads("pool 1;thing at 1 guard 0010;", 1, 24);
        reads("pool 1;thing at 1;thing at 1 needs 0000;", 1, 35);
        reads("pool 1;tells : 999;", 0, 2);
        reads("pool 1;tells : 0999;", 1, 15);
        reads("pool 1;tells : 1000;", 1, 15);
    }

    private static void boardBounds() {
        about("pool: what the BOARD tells, 0 to 99");
        due("0", told("pool 0;").count(0), 0);
        due("99", told("pool 99;").count(0), 99);
        reads("pool 100;", 3, 5);
        reads("pool 999;", 3, 5);
    }

    private static void depthBounds() {
        about("thing: its DEPTH, 0 to 99");
        due("0", told("pool 1;thing at 0;").thing(0, 0), 0);
        due("99", told("pool 1;thing at 99;").thing(0, 0), 99);
        reads("pool 1;thing at 100;", 3, 16);
        reads("pool 1;thing at 999;", 3, 16);
        reads("pool 1;thing at 99 at 99;", 2, 19);
    }

    private static void guardBounds() {
        about("guard 0 to 10 (0; a later one strikes)");
        due("none told", told("pool 1;thing at 1;").thing(0, 1), 0);
        due("0", told("pool 1;thing at 1 guard 0;").thing(0, 1), 0);
        due("10", told("pool 1;thing at 1 guard 10;").thing(0, 1), 10);
        reads("pool 1;thing at 1 guard 11;", 3, 24);
        reads("pool 1;thing at 1 guard 999;", 3, 24);
        due("a later lesser one", told("pool 1;thing at 1 guard 9 guard 4;").thing(0, 1), 4);
        due("a later greater one", told("pool 1;thing at 1 guard 4 there guard 9;").thing(0, 1), 9);
        due("a later 0", told("pool 1;thing at 1 guard 4 guard 0;").thing(0, 1), 0);
        due("it is of its own thing", told("pool 1;thing at 1 guard 4;thing at 1;").thing(1, 1), 0);
        reads("pool 1;thing at 1 guard 11 guard 1;", 3, 24);
    }

    private static void needsBounds() {
        about("needs: a THING told ahead (as many as one likes); a THING that isn't told");
        reads("pool 1;thing at 1 needs 0;", 3, 24);
        reads("pool 1;thing at 1;thing at 1 needs 1;", 3, 35);
        reads("pool 1;thing at 1;thing at 1 needs 2;thing at 1;", 3, 35);
        reads("pool 1;thing at 1;goer breath 1;goer breath 1;thing at 1 needs 1;", 3, 63);
        reads("pool 1;thing at 1;thing at 1 needs 999;", 3, 35);
        due("none told", told("pool 1;thing at 1;thing at 1;").thing(1, 2), 0);
        due("0", told("pool 1;thing at 1;thing at 1 needs 0;").thing(1, 2), 1);
        due("the one just ahead", told("pool 1;thing at 1;thing at 1;thing at 1 needs 1;").thing(2, 2), 2);
        String six = "pool 1;thing at 1;thing at 1;thing at 1;thing at 1;thing at 1;thing at 1";
        due("all five", told(six + " needs 4 needs 0 needs 3 needs 1 needs 2;").thing(5, 2), 31);
        due("one twice", told(six + " needs 4 needs 0 there needs 4;").thing(5, 2), 17);
        reads(six + " needs 5;", 3, 79);
        reads(six + " needs 4 needs 3 needs 6;", 3, 95);
    }

    private static void thereIsThere() {
        about("there: it is THERE (else not)");
        DepthBoard x = told("pool 1;thing at 1;thing at 1 there;thing at 1 there there;thing at 1 guard 1;");
        due("things", x.count(2), 6);
        for (int t = 0; t < 4; t++) due("thing " + t, x.thing(t, 3), t == 1 || t == 2 ? 1 : 0);
        due("there without its needs", told("pool 1;thing at 1;thing at 1 needs 0 there;").count(2), 2);
    }

    private static void sixThings() {
        about("things numbered from 0 on, 6 at most");
        DepthBoard x = told("pool 1;thing at 10;thing at 11;goer breath 1;thing at 12;thing at 13;tells : 1;thing at 14;thing at 15;");
        due("count(1)", x.count(1), 6);
        for (int t = 0; t < 6; t++) due("thing " + t, x.thing(t, 0), 10 + t);
        due("thing 6", x.thing(6, 0), -2);
        due("thing -1", x.thing(-1, 0), -2);
        reads("pool 1;" + SIX_THINGS, 0, 7);
        about("4 the first TOKEN of a 7th thing");
        reads("pool 1;" + SIX_THINGS + "thing at 1;", 4, 73);
        reads("pool 1;" + SIX_THINGS + "  thing", 4, 75);
        reads("pool 1;" + SIX_THINGS + "thing ?", 4, 73);
        reads("pool 1;" + SIX_THINGS + "thing at 100;", 4, 73);
        reads("pool 1;" + SIX_THINGS + SIX_GOERS + "thing at 1;", 4, 157);
    }

    private static void breathBounds() {
        about("goer: BREATH, 0 to 99");
        due("0", told("pool 1;goer breath 0;").goer(0, 0), 0);
        due("99", told("pool 1;goer breath 99;").goer(0, 0), 99);
        reads("pool 1;goer breath 100;", 3, 19);
        reads("pool 1;goer breath 999;", 3, 19);
        reads("pool 1;goer breath 1 breath 1;", 2, 21);
    }

    private static void boldBounds() {
        about("bold 0 to 9 (0); later ones strike");
        due("none told", told("pool 1;goer breath 1;").goer(0, 1), 0);
        due("0", told("pool 1;goer breath 1 bold 0;").goer(0, 1), 0);
        due("9", told("pool 1;goer breath 1 bold 9;").goer(0, 1), 9);
        reads("pool 1;goer breath 1 bold 10;", 3, 26);
        due("a later lesser one", told("pool 1;goer breath 1 bold 9 bold 4;").goer(0, 1), 4);
        due("a later greater one", told("pool 1;goer breath 1 bold 4 odds 2 bold 9;").goer(0, 1), 9);
        due("a later 0", told("pool 1;goer breath 1 bold 4 bold 0;").goer(0, 1), 0);
        due("it is of its own goer", told("pool 1;goer breath 1 bold 4;goer breath 1;").goer(1, 1), 0);
    }

    private static void oddsBounds() {
        about("odds 0 to 9 (1); later ones strike");
        due("none told", told("pool 1;goer breath 1;").goer(0, 2), 1);
        due("0", told("pool 1;goer breath 1 odds 0;").goer(0, 2), 0);
        due("9", told("pool 1;goer breath 1 odds 9;").goer(0, 2), 9);
        reads("pool 1;goer breath 1 odds 10;", 3, 26);
        due("a later lesser one", told("pool 1;goer breath 1 odds 9 odds 4;").goer(0, 2), 4);
        due("a later greater one", told("pool 1;goer breath 1 odds 4 bold 2 odds 9;").goer(0, 2), 9);
        due("a later 0", told("pool 1;goer breath 1 odds 4 odds 0;").goer(0, 2), 0);
        due("it is of its own goer", told("pool 1;goer breath 1 odds 4;goer breath 1;").goer(1, 2), 1);
    }

    private static void sixGoers() {
        about("goers numbered from 0 on, 6 at most");
        DepthBoard x = told("pool 1;goer breath 10;goer breath 11;thing at 1;goer breath 12;goer breath 13;tells : 1;goer breath 14;goer breath 15;");
        due("count(3)", x.count(3), 6);
        for (int g = 0; g < 6; g++) due("goer " + g, x.goer(g, 0), 10 + g);
        due("goer 6", x.goer(6, 0), -2);
        due("goer -1", x.goer(-1, 0), -2);
        reads("pool 1;" + SIX_GOERS, 0, 7);
        about("4 the first TOKEN of a 7th goer");
        reads("pool 1;" + SIX_GOERS + "goer breath 1;", 4, 91);
        reads("pool 1;" + SIX_GOERS + "\ngoer", 4, 92);
        reads("pool 1;" + SIX_GOERS + "goer ?", 4, 91);
        reads("pool 1;" + SIX_GOERS + SIX_THINGS + "goer breath 1;", 4, 157);
    }

    private static void laterLawsStrike() {
        about("later ones of reaches, tells strike");
        DepthBoard x = told("pool 1;reaches : 5;tells : 6;goer breath 9;tells : 7;reaches : 8;");
        due("reach", x.goer(0, 3), 8);
        due("post", x.goer(0, 4), 7);
        DepthBoard y = told("pool 1;reaches : 5 + 5 * 5;reaches : 1;tells : 1 + 2 * 3;tells : 2;goer breath 9;");
        due("a shorter one: reach", y.goer(0, 3), 1);
        due("a shorter one: post", y.goer(0, 4), 2);
        DepthBoard z = told("pool 1;goer breath 9;reaches : 5;");
        tell(z, "pool 1;goer breath 9;tells : 5;");
        due("of an older pool none", z.goer(0, 3), 9);
        tell(z, "pool 1;goer breath 9;");
        due("of an older pool none", z.goer(0, 4), 2);
        DepthBoard again = new DepthBoard();
        for (int i = 0; i < 4; i++) {
            tell(again, filled("pool 7;goer breath 0;tells:0", "+0", "+1" + i + ";", 900));
            due("long ones one behind the other", again.dive(0), 10 + i);
        }
        reads("pool 1;tells : 1;tells : ;", 2, 25);
    }

    private static void lawNumbersHaveNoBounds() {
        about("a number of a law has no bounds but its digits");
        reads("pool 1;reaches : 0;tells : 999;", 0, 3);
        reads("pool 1;tells : if 100 > 999 then 100 else (500) end;", 0, 2);
    }

    private static void poolFirstAndOnce() {
        about("pool must be told first, and once");
        reads("", 2, 0);
        reads(" ", 2, 1);
        reads(";", 2, 0);
        reads(";pool 1;", 2, 0);
        reads("thing at 1;pool 1;", 2, 0);
        reads("goer breath 1;pool 1;", 2, 0);
        reads("tells : 1;pool 1;", 2, 0);
        reads("reaches : 1;pool 1;", 2, 0);
        reads("1", 2, 0);
        reads("pool pool 1;", 2, 5);
        reads("pool 1 pool 1;", 2, 7);
        reads("pool 1;pool 1;", 2, 7);
        reads("pool 1;goer breath 1;pool 1;", 2, 21);
        reads("pool 1;;", 2, 7);
        reads("pool 1;goer breath 1;;", 2, 21);
    }

    private static void wordsOfTheOtherLaw() {
        about("a word of the other law");
        reads("pool 1;reaches : breath;", 0, 2);
        reads("pool 1;tells : reach;", 0, 2);
        reads("pool 1;reaches : reach;", 2, 17);
        reads("pool 1;tells : breath;", 2, 15);
        reads("pool 1;reaches : breath;tells : breath;", 2, 32);
        reads("pool 1;tells : reach;reaches : reach;", 2, 31);
        reads("pool 1;tells : if reach = breath then 1 else 1 end;", 2, 26);
        reads("pool 1;reaches : (1 + breath * (reach));", 2, 32);
        for (String word : List.of("who", "bold", "board", "things")) {
            reads("pool 1;reaches : " + word + ";tells : " + word + ";", 0, 3);
        }
        for (String word : List.of("odds", "guard", "there", "needs", "at", "pool", "thing", "goer", "reaches", "tells", "depth", "end", "not", "and", "or")) {
            reads("pool 1;reaches : " + word + ";", 2, 17);
            reads("pool 1;tells : 1 + " + word + ";", 2, 19);
        }
    }

    private static void wordsOutOfPlace() {
        about("2 it can't stand there");
        reads("pool : 1;", 2, 5);
        reads("pool - 1;", 2, 5);
        reads("pool 1:", 2, 6);
        reads("pool 1;thing 1;", 2, 13);
        reads("pool 1;thing at there;", 2, 16);
        reads("pool 1;thing at 1 there 1;", 2, 24);
        reads("pool 1;thing at 1 guard there;", 2, 24);
        reads("pool 1;thing at 1 breath 1;", 2, 18);
        reads("pool 1;thing at 1 odds 1;", 2, 18);
        reads("pool 1;thing at 1,", 1, 17);
        reads("pool 1;goer 1;", 2, 12);
        reads("pool 1;goer at 1;", 2, 12);
        reads("pool 1;goer breath 1 there;", 2, 21);
        reads("pool 1;goer breath 1 needs 0;", 2, 21);
        reads("pool 1;goer breath 1 bold bold 1;", 2, 26);
        reads("pool 1;goer breath 1 odds;", 2, 25);
        reads("pool 1;tells 1;", 2, 13);
        reads("pool 1;tells : ;", 2, 15);
        reads("pool 1;tells : ();", 2, 16);
        reads("pool 1;tells : (1;", 2, 17);
        reads("pool 1;tells : (1];", 2, 17);
        reads("pool 1;tells : 1 + + 1;", 2, 19);
        reads("pool 1;tells : * 1;", 2, 15);
        reads("pool 1;tells : 1 *;", 2, 18);
        reads("pool 1;tells : 1 = 1;", 2, 17);
        reads("pool 1;tells : who board;", 2, 19);
        reads("pool 1;tells : [ 1 ];", 2, 15);
        reads("pool 1;tells : if then 1 else 1 end;", 2, 18);
        reads("pool 1;tells : if 1 < 2 else 1 end;", 2, 24);
        reads("pool 1;tells : if 1 < 2 then else 1 end;", 2, 29);
        reads("pool 1;tells : if 1 < 2 then 1 end;", 2, 31);
        reads("pool 1;tells : if 1 < 2 then 1 else 2;", 2, 37);
        reads("pool 1;tells : if 1 < 2 then 1 else 2 else 3 end;", 2, 38);
        reads("pool 1;tells : if 1 + 2 then 1 else 2 end;", 2, 24);
        reads("pool 1;tells : if 1 < 2 and then 1 else 2 end;", 2, 28);
        reads("pool 1;tells : if 1 < 2 or or 1 < 2 then 1 else 2 end;", 2, 27);
        reads("pool 1;tells : if 1 < 2 < 3 then 1 else 2 end;", 2, 24);
        reads("pool 1;tells : if [ 1 < 2 then 1 else 2 end;", 2, 26);
        reads("pool 1;tells : if [ 1 < 2 ) then 1 else 2 end;", 2, 26);
        reads("pool 1;tells : if [ 1 < 2 ] = 1 then 1 else 2 end;", 2, 28);
        reads("pool 1;tells : if not then 1 else 2 end;", 2, 22);
        reads("pool 1;tells : if 1 not < 2 then 1 else 2 end;", 2, 20);
        reads("pool 1;tells : if (not 1 < 2) then 1 else 2 end;", 2, 19);
        reads("pool 1;tells : 1 end;", 2, 17);
    }

    /** For each of the four, alone and mixed: six within one another are read, a seventh isn't. */
    private static void sixWithinOneAnother() {
        about("at most six of not [ ( if within one another; 4 a seventh of not [ ( if");
        reads("pool 1;tells:((((((1))))));", 0, 2);
        reads("pool 1;tells:(((((((1)))))));", 4, 19);
        reads("pool 1;tells:if not not not not not 1=1 then 1 else 1 end;", 0, 2);
        reads("pool 1;tells:if not not not not not not 1=1 then 1 else 1 end;", 4, 36);
        reads("pool 1;tells:if [[[[[1=1]]]]] then 1 else 1 end;", 0, 2);
        reads("pool 1;tells:if [[[[[[1=1]]]]]] then 1 else 1 end;", 4, 21);
        String ifs = "if 1=1 then ";
        String ends = " else 1 end";
        reads("pool 1;tells:" + ifs.repeat(6) + "1" + ends.repeat(6) + ";", 0, 2);
        reads("pool 1;tells:" + ifs.repeat(7) + "1" + ends.repeat(7) + ";", 4, 85);
        String elses = "if 1=1 then 1 else ";
        reads("pool 1;tells:" + elses.repeat(6) + "1" + " end".repeat(6) + ";", 0, 2);
        reads("pool 1;tells:" + elses.repeat(7) + "1" + " end".repeat(7) + ";", 4, 127);
        String truths = " then 1 else 1 end=1";
        reads("pool 1;tells:" + "if ".repeat(6) + "1=1" + truths.repeat(5) + " then 1 else 1 end;", 0, 2);
        reads("pool 1;tells:" + "if ".repeat(7) + "1=1" + truths.repeat(6) + " then 1 else 1 end;", 4, 31);
        String mixed = "pool 1;tells:(if not [(if 1=1 then 1 else ";
        reads(mixed + "1 end)=1] then 1 else 1 end);", 0, 2);
        reads(mixed + "(1) end)=1] then 1 else 1 end);", 4, 42);
        reads(mixed + "if 1=1 then 1 else 1 end end)=1] then 1 else 1 end);", 4, 42);
        reads("pool 1;tells:(if not [(if not 1=1 then 1 else 1 end)=1] then 1 else 1 end);", 4, 26);
        reads("pool 1;tells:(if not [(if [1=1] then 1 else 1 end)=1] then 1 else 1 end);", 4, 26);
        about("side by side they are not within one another");
        reads("pool 1;tells:((((((1))))))+((((((1))))))*((((((1))))));", 0, 2);
        reads("pool 1;tells:if not not not not not 1=1 and not not not not not 1=1 or [[[[[1=1]]]]] then (((((1))))) else (((((1))))) end;", 0, 2);
        reads("pool 1;tells:if (((((1)))))=(((((1))))) then 1 else 1 end+((((((1))))));", 0, 2);
        reads("pool 1;tells:if not [1=1] and not [1=1] and not [1=1] and not [1=1] then 1 else 1 end;", 0, 2);
        reads("pool 1;tells:((((((1))))));reaches:((((((1))))));", 0, 3);
        about("what a not holds is within it");
        reads("pool 1;tells:if not not not not 1=(1) then 1 else 1 end;", 0, 2);
        reads("pool 1;tells:if not not not not not 1=(1) then 1 else 1 end;", 4, 38);
        reads("pool 1;tells:if not not not not not 1=1 and (1)=1 then 1 else 1 end;", 0, 2);
    }

    private static void theFirstAlongTheText() {
        about("FAULTS, the first along the text");
        reads("pool 100;thing at 100;", 3, 5);
        reads("pool 100?", 3, 5);
        reads("pool 100 100;", 3, 5);
        reads("pool ?100", 1, 5);
        reads("pool;?", 2, 4);
        reads("pool 1?;pool", 1, 6);
        reads("pool 1;thing at 1 guard 11 guard 1000;", 3, 24);
        reads("pool 1;thing at 1 guard ; needs 0;", 2, 24);
        reads("pool 1;goer breath 1 bold 10;pool", 3, 26);
        reads("pool 1;goer breath 1 pool bold 10;", 2, 21);
        reads("pool 1;tells : reach + breath + ?;", 2, 23);
        reads("pool 1;tells : 1 + 1000 breath;", 1, 19);
        reads("pool 1;tells : (((((((?", 4, 21);
        reads("pool 1;tells : ((((((?", 1, 21);
        reads("pool 1;" + SIX_THINGS + "thing at 100;?", 4, 73);
        reads("pool 1;" + SIX_THINGS.substring(0, 65) + ", thing at 1;", 1, 72);
        // The text that the shared runs feed last and leave unread: 1999, then 1990, then a word that is none of a law.
        String head = "pool 99;thing at 99 guard 10 guard 9 there there;goer breath 99 bold 9 bold 8 odds 9 odds 8;"
            + "reaches : ( ( ( 999 ) ) ) * 999;reaches : if not not who < 1 then 0 - 999 * 999 * 999 + 999 * 999 + ";
        String middle = " + things * 3 + breath else 0 end;tells : 0 - 999;tells : 999 * 999 * 999 * 999 - 999 * 999 - ";
        reads(head + "1999" + middle + "1990 + reach - breathless;", 1, head.length());
        reads(head + "999" + middle + "1990 + reach - breathless;", 1, head.length() + 3 + middle.length());
        reads(head + "999" + middle + "999 + reach - breathless;", 2, head.length() + 3 + middle.length() + 14);
        reads(head + "999" + middle + "999 + reach - bold;", 0, 7);
    }

    private static void theLeastKind() {
        about("of one TOKEN the least kind");
        // 1 ahead of 2, 3: a number of four digits where none may stand, where a lesser one must.
        reads("1000", 1, 0);
        reads("pool 1;1000", 1, 7);
        reads("pool 1;goer breath 1000;", 1, 19);
        reads("pool 1;goer 1000;", 1, 12);
        reads("pool 1;tells : 1 1000;", 1, 17);
        // 2 ahead of 3: a number beyond all bounds where none may stand.
        reads("pool 1;100", 2, 7);
        reads("pool 1;thing at 1 999;", 2, 18);
        reads("pool 1;goer breath 1 999;", 2, 21);
        // 2 ahead of 4: a seventh where it can't stand anyhow.
        reads("pool 1;" + SIX_THINGS.substring(0, 65) + " thing at 1;", 2, 73);
        reads("pool 1;" + SIX_GOERS.substring(0, 83) + " goer breath 1;", 2, 91);
        reads("pool 1;tells : ((((((1(", 2, 22);
        reads("pool 1;tells : ((((((1 if", 2, 23);
        reads("pool 1;tells : ((((((not", 2, 21);
        reads("pool 1;tells : (((((([", 2, 21);
        reads("pool 1;tells : if [[[[[1=1 not", 2, 27);
        reads("pool 1;tells : if [[[[[1=1 [", 2, 27);
        reads("pool 1;tells : if not not not not not 1=1 (", 2, 42);
    }
}
