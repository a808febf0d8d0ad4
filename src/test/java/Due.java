import java.util.ArrayList;
import java.util.List;

/** What the tests share: pools told, trays filled, and answers held against those that are due. */
abstract class Due {
    /** A call of the class, to be done on an object that is handed in. */
    interface Call {
        long on(DepthBoard x);
    }

    private static int asked = 0;
    private static int wrong = 0;
    private static String about = "";

    /** The sentence, or the promise, that the next answers are about. */
    static void about(String sentence) {
        about = sentence;
    }

    static void due(String call, long got, long want) {
        asked++;
        if (got != want) {
            wrong++;
            System.out.println(about + ": " + call + " answered " + got + ", due is " + want);
        }
    }

    static void end(String test) {
        System.out.println(test + ": " + asked + " answers, " + wrong + " wrong");
        if (wrong != 0) System.exit(1);
    }

    /** Puts a text onto the tape, with blanks behind it up to a whole feed. */
    static void load(DepthBoard x, String text) {
        for (int i = 0; i < text.length(); i += 20) {
            int[] five = new int[5];
            for (int k = 0; k < 20; k++) {
                int c = i + k < text.length() ? text.charAt(i + k) : ' ';
                five[k / 4] = five[k / 4] << 8 | c & 255;
            }
            x.feed(five[0], five[1], five[2], five[3], five[4]);
        }
    }

    static int tell(DepthBoard x, String text) {
        load(x, text);
        return x.pool(text.length());
    }

    static DepthBoard told(String text) {
        DepthBoard x = new DepthBoard();
        int lines = tell(x, text);
        if (lines < 1) due("pool of " + text, lines, 1);
        return x;
    }

    static void tray(DepthBoard x, int tray, int sort, long... numbers) {
        x.numbers(tray, sort, numbers.length);
        for (int i = 0; i < numbers.length; i++) x.write(tray, i, numbers[i]);
    }

    /** Board, things there, and calls that can be undone. */
    static void stands(DepthBoard x, int board, int there, int undoable) {
        due("count(0)", x.count(0), board);
        due("count(2)", x.count(2), there);
        due("count(6)", x.count(6), undoable);
    }

    /** A text of one pool is read or not: its answer, its fault and the fault's place; kind 0 for as many lines as place tells. */
    static void reads(String text, int kind, int place) {
        DepthBoard x = new DepthBoard();
        String shown = text.length() > 200 ? text.substring(0, 200) + ".." : text;
        due("pool of '" + shown + "'", tell(x, text), kind == 0 ? place : -30 - kind);
        due("fault(0) of '" + shown + "'", x.fault(0), kind);
        due("fault(1) of '" + shown + "'", x.fault(1), kind == 0 ? -1 : place);
    }

    /** All that can be asked of an object's state, at last by writing, undoing, restoring and reading the tape; some 300 calls. */
    static List<Long> seen(DepthBoard x) {
        List<Long> all = new ArrayList<>();
        seeStand(x, all);
        seeFault(x, all);
        int things = x.count(1);
        for (int t = 0; t < things; t++) {
            for (int what = 0; what < 3; what++) all.add((long) x.thing(t, what));
        }
        for (int tray = 0; tray < 4; tray++) seeTray(x, tray, all);
        int undoable = x.count(6);
        for (int i = 0; i < undoable; i++) {
            all.add((long) x.undo(1));
            seeStand(x, all);
        }
        for (int image = 0; image < 2; image++) {
            all.add((long) x.restore(image));
            seeStand(x, all);
        }
        all.add((long) x.pool(x.count(7)));
        seeFault(x, all);
        seeStand(x, all);
        return all;
    }

    private static void seeFault(DepthBoard x, List<Long> all) {
        for (int what = 0; what < 2; what++) all.add((long) x.fault(what));
    }

    private static void seeStand(DepthBoard x, List<Long> all) {
        for (int what : new int[] {0, 2, 6, 7, 8}) all.add((long) x.count(what));
        int goers = x.count(3);
        for (int g = 0; g < goers; g++) {
            for (int what : new int[] {0, 1, 4}) all.add((long) x.goer(g, what));
        }
    }

    /** What a tray holds, then how many numbers of what sort it has. */
    private static void seeTray(DepthBoard x, int tray, List<Long> all) {
        for (int what = 0; what < 4; what++) all.add((long) x.judge(tray, what));
        all.add(x.posted(tray));
        all.add((long) x.suspects(tray));
        for (int i : new int[] {0, 1, 2, 3, 11, 12, 39, 40}) all.add(x.write(tray, i, 0x123456789abcdefL));
    }
}
