/** Promises 40 to 45, TRAYS and IMAGES: each sentence that names an edge. */
public final class TrayEdgeTest extends Due {
    private static final String CHAIN = "pool 0;thing at 1;thing at 1 needs 0;thing at 1 needs 1;thing at 9;goer breath 0;goer breath 1;";

    private TrayEdgeTest() { }

    public static void main(String[] args) {
        missingAtFirst();
        numbersBounds();
        numbersAreAllZero();
        aRefusedTrayStays();
        writeBounds();
        cutToItsSort();
        traysAreApart();
        listsAsFarAsThereArePlaces();
        listsRefused();
        imageBounds();
        noneWasMade();
        allThatIsInAnImage();
        whatIsInNoImage();
        twoImages();
        nothingCanBeUndoneBehind();
        imageOfNoPool();
        count();
        end("TrayEdgeTest");
    }

    private static void missingAtFirst() {
        about("TRAYS 0 to 3 are MISSING at first; -6");
        DepthBoard x = told(CHAIN);
        for (int tray = 0; tray < 4; tray++) {
            due("write", x.write(tray, 0, 1), -6);
            due("write, no such number either", x.write(tray, -1, 1), -6);
            due("judge", x.judge(tray, 0), -6);
            due("perform", x.perform(tray), -6);
            due("posted", x.posted(tray), -6);
            due("lists", x.lists(tray, 0, 3), -6);
        }
        x.numbers(2, 0, 0);
        due("tray 2 is there", x.perform(2), 0);
        due("tray 1 is missing still", x.perform(1), -6);
        due("tray 3 is missing still", x.perform(3), -6);
        tell(x, CHAIN);
        due("it is there behind another pool", x.perform(2), 0);
    }

    private static void numbersBounds() {
        about("numbers: 0; -2: no such TRAY, sort; -3: n is below 0 or above 40");
        DepthBoard x = new DepthBoard();
        for (int tray : new int[] {-1, 4, Integer.MIN_VALUE, Integer.MAX_VALUE}) {
            due("tray " + tray, x.numbers(tray, 0, 1), -2);
            due("tray " + tray + ", ahead of n", x.numbers(tray, 0, 41), -2);
            due("write, tray " + tray, x.write(tray, 0, 1), -2);
        }
        for (int sort : new int[] {-1, 4, Integer.MIN_VALUE, Integer.MAX_VALUE}) {
            due("sort " + sort, x.numbers(0, sort, 1), -2);
            due("sort " + sort + ", ahead of n", x.numbers(0, sort, -1), -2);
        }
        for (int n : new int[] {-1, 41, Integer.MIN_VALUE, Integer.MAX_VALUE}) due("n " + n, x.numbers(0, 0, n), -3);
        due("missing still", x.write(0, 0, 1), -6);
        for (int tray = 0; tray < 4; tray++) {
            for (int sort = 0; sort < 4; sort++) {
                due("none", x.numbers(tray, sort, 0), 0);
                due("no such number", x.write(tray, 0, 1), -7);
                due("forty", x.numbers(tray, sort, 40), 0);
                due("the last", x.write(tray, 39, 1), 1);
            }
        }
    }

    private static void numbersAreAllZero() {
        about("all 0 (in place of another one)");
        DepthBoard x = told("pool 0;goer breath 1;goer breath 1;tells : board + 1 + who;");
        x.numbers(0, 2, 40);
        for (int i = 0; i < 40; i++) x.write(0, i, 1);
        due("forty by goer 1", x.judge(0, 3), 80);
        x.numbers(0, 2, 40);
        due("forty by goer 0", x.judge(0, 3), 40);
        tray(x, 0, 2, 1, 1, 1);
        x.numbers(0, 2, 5);
        due("five by goer 0", x.judge(0, 3), 5);
        x.numbers(0, 2, 2);
        due("two", x.judge(0, 3), 2);
        due("the third is no more", x.write(0, 2, 1), -7);
        x.numbers(0, 2, 0);
        due("none", x.judge(0, 3), 0);
    }

    private static void aRefusedTrayStays() {
        about("-3, and the TRAY stays");
        DepthBoard x = told("pool 0;goer breath 1;goer breath 1;tells : board + 1 + who;");
        tray(x, 0, 1, 1, 0, 1);
        for (int n : new int[] {-1, 41, Integer.MIN_VALUE, Integer.MAX_VALUE}) due("numbers", x.numbers(0, 0, n), -3);
        due("no such sort", x.numbers(0, 4, 1), -2);
        due("its numbers", x.judge(0, 3), 5);
        due("how many", x.judge(0, 0), -1);
        due("the last place", x.write(0, 3, 1), -7);
        due("its sort", x.write(0, 2, 0x12345), 0x2345);
    }

    private static void writeBounds() {
        about("write: -2: no such TRAY; -6; -7");
        DepthBoard x = told("pool 0;goer breath 1;");
        for (int n : new int[] {0, 1, 2, 39, 40}) {
            x.numbers(1, 3, n);
            if (n > 0) due("the first of " + n, x.write(1, 0, 5), 5);
            if (n > 0) due("the last of " + n, x.write(1, n - 1, 6), 6);
            for (int i : new int[] {-1, n, n + 1, 40, 41, Integer.MIN_VALUE, Integer.MAX_VALUE}) {
                due("number " + i + " of " + n, x.write(1, i, 7), -7);
            }
        }
        tray(x, 0, 0, 0, 0);
        x.write(0, 2, 9);
        x.write(0, -1, 9);
        due("refused, its numbers stay", x.judge(0, 0), -1);
        x.write(0, 1, 1);
        due("number 1 alone was written", x.judge(0, 0), 1);
    }

    private static void cutToItsSort() {
        about("v, cut to its sort: 8 bits (sort 0), 16 (1), 32 (2), 64 (3)");
        DepthBoard x = new DepthBoard();
        for (int sort = 0; sort < 4; sort++) {
            x.numbers(sort, sort, 1);
            int bits = 8 << sort;
            long most = (1L << bits - 1) - 1;
            if (sort == 3) most = Long.MAX_VALUE;
            long least = -most - 1;
            due("0", x.write(sort, 0, 0), 0);
            due("-1", x.write(sort, 0, -1), -1);
            due("the greatest", x.write(sort, 0, most), most);
            due("1 more", x.write(sort, 0, most + 1), least);
            due("the least", x.write(sort, 0, least), least);
            due("1 less", x.write(sort, 0, least - 1), most);
            if (sort == 3) continue;
            due("a bit above its bits", x.write(sort, 0, 1L << bits), 0);
            due("all its bits", x.write(sort, 0, (1L << bits) - 1), -1);
            due("far above", x.write(sort, 0, Long.MAX_VALUE), -1);
            due("far below", x.write(sort, 0, Long.MIN_VALUE), 0);
        }
        about("what is there is what was cut");
        DepthBoard y = told("pool 0;goer breath 1;goer breath 1;tells : board + 1 + who;");
        tray(y, 0, 0, 257);
        due("257 in 8 bits is goer 1", y.judge(0, 3), 2);
        tray(y, 0, 0, 200);
        due("200 in 8 bits can't be", y.judge(0, 1), 1);
        tray(y, 0, 1, 65536 + 1150);
        due("1150 in 16 bits", y.judge(0, 3), 50);
        tray(y, 0, 2, (1L << 32) + 1);
        due("1 in 32 bits", y.judge(0, 3), 2);
        tray(y, 0, 3, (1L << 32) + 1);
        due("it isn't cut in 64", y.judge(0, 1), 1);
    }

    private static void traysAreApart() {
        about("each TRAY has its own numbers");
        DepthBoard x = told("pool 0;goer breath 1;");
        for (int tray = 0; tray < 4; tray++) x.numbers(tray, tray, 10 * tray + 1);
        for (int tray = 0; tray < 4; tray++) due("dives of tray " + tray, x.judge(tray, 3), 10 * tray + 1);
        x.write(1, 0, 9);
        for (int tray = 0; tray < 4; tray++) due("the first place that can't be of " + tray, x.judge(tray, 0), tray == 1 ? 0 : -1);
    }

    private static void listsAsFarAsThereArePlaces() {
        about("lists: as far as it has places: how many");
        DepthBoard x = told(CHAIN);
        int[] come = {0, 1, 2, 3, 3, 3};
        int[] then = {0, 1, 3, 7, 7, 7};
        for (int n = 0; n < 6; n++) {
            x.numbers(0, 1, n);
            for (int i = 0; i < n; i++) x.write(0, i, 77);
            due("places " + n, x.lists(0, 2, 3), come[n]);
            due("what they do", x.judge(0, 2), then[n]);
            due("the others stay", x.judge(0, 0), n > 3 ? 3 : -1);
        }
        x.numbers(0, 0, 40);
        due("forty places", x.lists(0, 2, 2), 3);
        due("goer 1 thrice, then zeros", x.judge(0, 3), 40);
        x.perform(0);
        tray(x, 1, 0, 77, 77);
        due("it is there: none", x.lists(1, 2, 3), 0);
        due("it is there: none by nobody", x.lists(1, 2, 0), 0);
        due("the tray stays", x.judge(1, 0), 0);
        DepthBoard y = told("pool 0;thing at 50;goer breath 1;goer breath 1;reaches : if board > 89 then 50 else 0 end;");
        y.numbers(0, 0, 40);
        due("91 dives into 40 places", y.lists(0, 0, 2), 40);
        due("goer 1 forty times", y.judge(0, 0), -1);
        due("the board then", y.judge(0, 3), 40);
        stands(y, 0, 0, 0);
    }

    private static void listsRefused() {
        about("lists: -2: the TRAY, the THING; -6; -3: the set; -5: it can't be");
        DepthBoard x = told(CHAIN);
        for (int tray : new int[] {-1, 4, Integer.MIN_VALUE, Integer.MAX_VALUE}) due("tray " + tray, x.lists(tray, 0, 3), -2);
        for (int t : new int[] {-1, 4, Integer.MIN_VALUE, Integer.MAX_VALUE}) due("thing " + t + ", missing", x.lists(0, t, 4), -2);
        due("missing, ahead of the set", x.lists(0, 0, 4), -6);
        due("missing, ahead of what can't be", x.lists(0, 3, 3), -6);
        tray(x, 0, 0, 1, 1);
        for (int set : new int[] {4, -1, Integer.MIN_VALUE, Integer.MAX_VALUE}) due("set " + set + ", it can't be", x.lists(0, 3, set), -3);
        due("it can't be", x.lists(0, 3, 3), -5);
        due("it can't be by goer 0", x.lists(0, 0, 1), -5);
        due("it can't be by nobody", x.lists(0, 0, 0), -5);
        x.numbers(1, 0, 0);
        due("it can't be, no places", x.lists(1, 3, 3), -5);
        due("the tray stays", x.judge(0, 2), 3);
    }

    private static void imageBounds() {
        about("IMAGES 0 to 1; -2");
        DepthBoard x = told(CHAIN);
        for (int i : new int[] {-1, 2, 3, Integer.MIN_VALUE, Integer.MAX_VALUE}) {
            due("image(" + i + ")", x.image(i), -2);
            due("restore(" + i + ")", x.restore(i), -2);
        }
        due("image(0)", x.image(0), 0);
        due("image(1)", x.image(1), 0);
        due("restore(0)", x.restore(0), 0);
        due("restore(1)", x.restore(1), 0);
    }

    private static void noneWasMade() {
        about("-5: none was made");
        DepthBoard x = told(CHAIN);
        x.dive(1);
        due("restore(0)", x.restore(0), -5);
        due("restore(1)", x.restore(1), -5);
        stands(x, 1, 1, 1);
        x.image(1);
        due("the other one", x.restore(0), -5);
        stands(x, 1, 1, 1);
        x.image(2);
        x.image(-1);
        due("refused ones make none", x.restore(0), -5);
        due("that one", x.restore(1), 0);
    }

    private static void allThatIsInAnImage() {
        about("all that is in an IMAGE is as it was");
        DepthBoard x = told("pool 4;thing at 3 guard 2;thing at 5 there;goer breath 6 bold 7 odds 8;goer breath 9;reaches : breath - 1;tells : board + 3;");
        x.dive(0);
        x.breath(0, 10);
        x.bold(0, 2);
        x.wipe(1);
        due("image", x.image(0), 0);
        tell(x, "pool 50;goer breath 1;");
        x.dive(0);
        due("restore", x.restore(0), 0);
        stands(x, 7, 1, 0);
        int[] counts = {7, 2, 1, 2, 9, 5, 0, 0, 7};
        for (int what = 0; what < counts.length; what++) due("count(" + what + ")", x.count(what), counts[what]);
        due("guard", x.thing(0, 1), 2);
        due("breath 0", x.goer(0, 0), 10);
        due("bold 0", x.goer(0, 1), 2);
        due("odds 0", x.goer(0, 2), 8);
        due("reach 0", x.goer(0, 3), 9);
        due("post 0", x.goer(0, 4), 10);
        due("breath 1", x.goer(1, 0), 9);
        due("reach 1, kept by the guard", x.goer(1, 3), 3);
        x.dive(1);
        x.bold(1, 9);
        due("restore again", x.restore(0), 0);
        stands(x, 7, 1, 0);
        due("bold 1", x.goer(1, 1), 0);
        x.dive(1);
        due("an image made again", x.image(0), 0);
        x.dive(1);
        x.restore(0);
        due("is the later one", x.count(0), 10);
    }

    private static void whatIsInNoImage() {
        about("an IMAGE: THE POOL and what a call could bring back by UNDOING, no more");
        DepthBoard x = told(CHAIN);
        x.image(0);
        tell(x, "pool 100;");
        load(x, "pool 1;");
        tray(x, 0, 0, 1, 1);
        x.image(1);
        due("restore(0)", x.restore(0), 0);
        due("the latest fault", x.fault(0), 3);
        due("its place", x.fault(1), 5);
        due("the tape", x.count(7), 20);
        due("a tray", x.judge(0, 2), 3);
        due("the other image", x.restore(1), 0);
        due("what was on the tape", x.pool(7), 1);
    }

    private static void twoImages() {
        about("two IMAGES");
        DepthBoard x = told(CHAIN);
        x.dive(0);
        x.image(0);
        x.dive(1);
        x.image(1);
        x.dive(1);
        due("restore(0)", x.restore(0), 0);
        stands(x, 1, 0, 0);
        due("restore(1)", x.restore(1), 0);
        stands(x, 2, 1, 0);
        x.restore(0);
        x.image(1);
        x.dive(0);
        x.restore(1);
        stands(x, 1, 0, 0);
    }

    private static void nothingCanBeUndoneBehind() {
        about("nothing can be UNDONE behind");
        DepthBoard x = told(CHAIN);
        x.dive(0);
        x.dive(0);
        x.image(0);
        due("an image leaves what can be", x.count(6), 2);
        x.dive(0);
        x.restore(0);
        due("count(6)", x.count(6), 0);
        due("undo(1)", x.undo(1), -3);
        stands(x, 2, 0, 0);
        x.dive(0);
        due("what is done behind can be", x.undo(1), 0);
        stands(x, 2, 0, 0);
        due("-5 leaves what can be", x.dive(0) + x.restore(1) + x.count(6), 3 - 5 + 1);
    }

    private static void imageOfNoPool() {
        about("an IMAGE without a POOL");
        DepthBoard x = new DepthBoard();
        due("image", x.image(0), 0);
        tell(x, CHAIN);
        x.dive(0);
        due("restore", x.restore(0), 0);
        int[] counts = {0, 0, 0, 0, 0, -1, 0, 0, 0};
        for (int what = 0; what < counts.length; what++) due("count(" + what + ")", x.count(what), counts[what]);
        due("dive(0)", x.dive(0), -11);
        due("deepest(0)", x.deepest(0), 0);
        due("deepest(1)", x.deepest(1), -3);
    }

    private static void count() {
        about("count: NONE for others");
        DepthBoard x = told("pool 4;thing at 3;thing at 7 there;thing at 5 there;goer breath 6 odds 8;goer breath 9;tells : 8;");
        x.dive(1);
        x.dive(0);
        load(x, "pool 1;");
        int[] counts = {8, 3, 7, 2, 9, 7, 2, 20, 7};
        for (int what = 0; what < counts.length; what++) due("count(" + what + ")", x.count(what), counts[what]);
        for (int what : new int[] {-1, 9, 10, Integer.MIN_VALUE, Integer.MAX_VALUE}) due("count(" + what + ")", x.count(what), -1);
        about("count: 5 the greatest DEPTH of a THING (NONE)");
        due("no things", told("pool 1;goer breath 1;").count(5), -1);
        due("one at 0", told("pool 1;thing at 0;").count(5), 0);
        due("one at 99, the first", told("pool 1;thing at 99;thing at 3 there;").count(5), 99);
        due("the last of six", told("pool 1;" + "thing at 1;".repeat(5) + "thing at 2;").count(5), 2);
        about("count: 4 all odds");
        due("none", told("pool 1;").count(4), 0);
        due("all 0", told("pool 1;goer breath 1 odds 0;goer breath 1 odds 0;").count(4), 0);
        due("untold", told("pool 1;" + "goer breath 1;".repeat(6)).count(4), 6);
        due("nines", told("pool 1;" + "goer breath 1 odds 9;".repeat(6)).count(4), 54);
    }
}
