import java.util.Random;

/** Texts of pools by chance: good ones, and ones with a token or a byte changed. */
final class Texts {
    private static final String[] WORDS = {"pool", "thing", "at", "guard", "needs", "there", "goer", "breath", "bold", "odds",
        "reaches", "tells", "reach", "if", "then", "else", "end", "who", "board", "things", "not", "and", "or", "deep",
        ";", ":", "+", "-", "*", "(", ")", "[", "]", "=", "<", ">", "0", "1", "5", "6", "9", "10", "11", "99", "100", "999", "1000",
        "007", "?", "A", ",", "\t", "\u00e9"};
    private final Random random;

    Texts(Random random) {
        this.random = random;
    }

    int below(int n) {
        return random.nextInt(n);
    }

    String pick(String... from) {
        return from[below(from.length)];
    }

    String good() {
        return below(2) == 0 ? lively() : mixed();
    }

    /** Where goers differ and the board goes up and down, so that things come late and by several. */
    private String lively() {
        StringBuilder text = new StringBuilder("pool " + below(10) + ";");
        int things = 2 + below(5);
        int goers = 2 + below(5);
        for (int t = 0; t < things; t++) {
            text.append("thing at ").append(4 + below(12));
            if (below(2) == 0) text.append(" guard ").append(below(10));
            if (t > 0 && below(3) > 0) text.append(" needs ").append(t - 1 - below(Math.min(t, 2)));
            if (below(8) == 0) text.append(" there");
            text.append(";");
        }
        for (int g = 0; g < goers; g++) {
            text.append("goer breath ").append(2 + below(14)).append(" bold ").append(below(10));
            if (below(2) == 0) text.append(" odds ").append(below(10));
            text.append(";");
        }
        int n = 2 + below(9);
        text.append("reaches : ").append(pick("breath + bold - board", "if board > " + n + " then breath else board + bold end",
            "if who * 3 = board or board = who * 2 + " + n + " then breath * 2 else bold end",
            "if [ who < 2 and board < " + n + " ] or board > " + 3 * n + " then breath + things else board - who end",
            "if not board < who * " + n + " then breath + bold else 3 - who + things end")).append(";");
        text.append("tells : ").append(pick("if board > " + 4 * n + " then who else board + who + 1 end",
            "if reach > board then reach + who else board - who * 2 end", "board + 2 - who", "reach - who + bold",
            "if who = 0 then board * 2 else if who = 1 then board - " + n + " else board + 1 end end",
            "if board > 9 then board - 7 else board + 3 + who end", "(board - bold) * 2 + who - things")).append(";");
        return text.toString();
    }

    private String mixed() {
        int scale = pick("s", "s", "m", "l").equals("s") ? 12 : 100;
        StringBuilder text = new StringBuilder("pool " + below(scale) + " ;");
        int things = below(7);
        int goers = below(7);
        for (int t = 0; t < things; t++) {
            text.append(" thing at ").append(below(scale));
            if (below(3) == 0) text.append(" guard ").append(below(11));
            while (t > 0 && below(3) == 0) text.append(" needs ").append(below(t));
            if (below(4) == 0) text.append(" there");
            if (below(5) == 0) text.append(" guard ").append(below(11));
            text.append(" ;");
        }
        for (int g = 0; g < goers; g++) {
            text.append(" goer breath ").append(below(scale));
            if (below(2) == 0) text.append(" bold ").append(below(10));
            if (below(2) == 0) text.append(" odds ").append(below(10));
            if (below(6) == 0) text.append(" bold ").append(below(10));
            text.append(" ;");
        }
        for (int i = below(3); i > 0; i--) text.append(" reaches : ").append(sum(0, false)).append(" ;");
        for (int i = below(3); i > 0; i--) text.append(" tells : ").append(sum(0, true)).append(" ;");
        String spaced = below(2) == 0 ? text.toString() : text.toString().replace(" ;", ";").replace("; ", ";");
        if (below(4) == 0) spaced = spaced.replace("; ", ";\n");
        return spaced.length() <= 900 ? spaced : mixed();
    }

    private String sum(int open, boolean ofTells) {
        StringBuilder s = new StringBuilder(term(open, ofTells));
        while (below(5) < 2) s.append(pick(" + ", " - ")).append(term(open, ofTells));
        return s.toString();
    }

    private String term(int open, boolean ofTells) {
        StringBuilder s = new StringBuilder(atom(open, ofTells));
        while (below(6) == 0) s.append(" * ").append(atom(open, ofTells));
        return s.toString();
    }

    private String atom(int open, boolean ofTells) {
        int kind = open < 6 ? below(8) : 2 + below(6);
        if (kind == 0) return "( " + sum(open + 1, ofTells) + " )";
        if (kind == 1) {
            return "if " + truth(open + 1, ofTells) + " then " + sum(open + 1, ofTells) + " else " + sum(open + 1, ofTells) + " end";
        }
        if (kind < 4) return pick("" + below(4), "" + below(20), "" + below(1000));
        if (kind < 6) return ofTells ? "reach" : "breath";
        return pick("who", "bold", "board", "things");
    }

    private String truth(int open, boolean ofTells) {
        StringBuilder s = new StringBuilder(unit(open, ofTells));
        while (below(4) == 0) s.append(pick(" and ", " or ")).append(unit(open, ofTells));
        return s.toString();
    }

    private String unit(int open, boolean ofTells) {
        int kind = open < 6 ? below(7) : 2;
        if (kind == 0) return "not " + unit(open + 1, ofTells);
        if (kind == 1) return "[ " + truth(open + 1, ofTells) + " ]";
        return sum(open, ofTells) + pick(" = ", " < ", " > ") + sum(open, ofTells);
    }

    /** Puts a digit more to the next number. */
    private void enlarge(StringBuilder text, int from) {
        for (int i = from; i < text.length(); i++) {
            if (Character.isDigit(text.charAt(i))) {
                text.insert(i, below(10));
                return;
            }
        }
    }

    /** A good text with one to three tokens or bytes struck, changed or put in. */
    String changed() {
        StringBuilder text = new StringBuilder(good());
        for (int i = 1 + below(2) * below(3); i > 0 && text.length() > 0; i--) {
            int at = below(text.length());
            int end = text.indexOf(" ", at);
            switch (below(7)) {
                case 0: text.deleteCharAt(at); break;
                case 5: enlarge(text, at); break;
                case 6: text.insert(text.lastIndexOf(";", at) + 1, pick("thing at 1;", "goer breath 1;", "tells:1;", "(", "if").repeat(below(8))); break;
                case 1: text.insert(at, pick(WORDS)); break;
                case 2: text.insert(end < 0 ? at : end, " " + pick(WORDS) + " "); break;
                case 3: text.setLength(at); break;
                default:
                    if (end > at) text.replace(at, end, " " + pick(WORDS));
                    break;
            }
        }
        if (below(8) == 0) text.append(" thing at 1 ;".repeat(below(8)));
        if (below(8) == 0) text.append(" goer breath 1 ;".repeat(below(8)));
        if (below(8) == 0) text.append(" tells : ").append(pick("( ", "if ", "if not ", "if [ ").repeat(below(9))).append("1");
        if (text.length() > 900) text.setLength(900);
        return text.toString();
    }
}
