import java.math.BigInteger;
import java.util.ArrayDeque;
import java.util.ArrayList;
import java.util.Arrays;
import java.util.Deque;
import java.util.HashMap;
import java.util.HashSet;
import java.util.List;
import java.util.Map;
import java.util.Set;
import java.util.TreeSet;

/** The document's words again, as slow and plain as they go and in another way than the class, to compare it with. */
final class Model {
    record Token(String text, int place, int lexFault) { }

    record State(int board, int things) { }

    record Dive(int reach, State behind) { }

    /** All that an undone call brings back. */
    record Stand(State state, List<Integer> breath, List<Integer> bold) { }

    record Side(State state, int toSend) { }

    static final class Told {
        int board;
        int lines;
        int there;
        final List<int[]> things = new ArrayList<>();
        final List<int[]> goers = new ArrayList<>();
        List<String> reaches;
        List<String> tells;
    }

    private final List<Integer> tape = new ArrayList<>();
    private int fault = 0;
    private int place = -1;
    private Told told = new Told();
    private Stand now = new Stand(new State(0, 0), List.of(), List.of());
    private final Deque<Stand> past = new ArrayDeque<>();
    private final long[][] trays = new long[4][];
    private final int[] sorts = new int[4];
    private final Told[] imageTold = new Told[2];
    private final Stand[] imageStand = new Stand[2];

    // ---- reading

    static List<Token> tokens(String text) {
        List<Token> all = new ArrayList<>();
        int i = 0;
        while (i < text.length()) {
            char c = text.charAt(i);
            int from = i;
            if (c == 10 || c == 32) {
                i++;
                continue;
            }
            if (c >= 'a' && c <= 'z') {
                while (i < text.length() && text.charAt(i) >= 'a' && text.charAt(i) <= 'z') i++;
            } else if (c >= '0' && c <= '9') {
                while (i < text.length() && text.charAt(i) >= '0' && text.charAt(i) <= '9') i++;
            } else {
                i++;
            }
            String token = text.substring(from, i);
            boolean good = token.matches("[a-z]+|[0-9]{1,3}|[;:+*()\\[\\]=<>-]");
            all.add(new Token(token, from, good ? 0 : 1));
        }
        all.add(new Token("", text.length(), 0));
        return all;
    }

    private static boolean isNumber(String token) {
        return token.matches("[0-9]+");
    }

    /** A stack of what is awaited; answers null behind a fault. */
    private Told parse(String text) {
        Told draft = new Told();
        Deque<String> awaited = new ArrayDeque<>();
        List<String> law = new ArrayList<>();
        boolean ofTells = false;
        int open = 0;
        push(awaited, "pool", "N99=board", ";", "#line", "LINES");
        List<Token> all = tokens(text);
        int at = 0;
        fault = 0;
        place = -1;
        while (true) {
            Token token = all.get(at);
            String t = token.text;
            String want = awaited.isEmpty() ? "" : awaited.pop();
            if (want.equals("#line")) {
                draft.lines++;
                continue;
            }
            if (want.equals("#close")) {
                open--;
                continue;
            }
            if (want.startsWith("#law")) {
                List<String> made = new ArrayList<>(law);
                if (ofTells) draft.tells = made;
                else draft.reaches = made;
                continue;
            }
            if (token.lexFault != 0) return failed(1, token);
            switch (want) {
                case "LINES":
                    if (!t.isEmpty()) push(awaited, "LINE", ";", "#line", "LINES");
                    continue;
                case "LINE":
                    if (t.equals("thing")) push(awaited, "thing", "at", "N99=depth", "PARTS");
                    else if (t.equals("goer")) push(awaited, "goer", "breath", "N99=breath", "FLAGS");
                    else if (t.equals("reaches") || t.equals("tells")) push(awaited, t, ":", "SUM", "#law");
                    else return failed(2, token);
                    continue;
                case "PARTS":
                    if (t.equals("guard")) push(awaited, "guard", "N10=guard", "PARTS");
                    else if (t.equals("needs")) push(awaited, "needs", "N" + (draft.things.size() - 2) + "=needs", "PARTS");
                    else if (t.equals("there")) push(awaited, "there", "PARTS");
                    continue;
                case "FLAGS":
                    if (t.equals("bold")) push(awaited, "bold", "N9=bold", "FLAGS");
                    else if (t.equals("odds")) push(awaited, "odds", "N9=odds", "FLAGS");
                    continue;
                case "SUM":
                    push(awaited, "TERM", "MORETERMS");
                    continue;
                case "MORETERMS":
                    if (t.equals("+") || t.equals("-")) push(awaited, t, "TERM", "MORETERMS");
                    continue;
                case "TERM":
                    push(awaited, "ATOM", "MOREATOMS");
                    continue;
                case "MOREATOMS":
                    if (t.equals("*")) push(awaited, "*", "ATOM", "MOREATOMS");
                    continue;
                case "TRUTH":
                    push(awaited, "BOTH", "MOREBOTHS");
                    continue;
                case "MOREBOTHS":
                    if (t.equals("or")) push(awaited, "or", "BOTH", "MOREBOTHS");
                    continue;
                case "BOTH":
                    push(awaited, "UNIT", "MOREUNITS");
                    continue;
                case "MOREUNITS":
                    if (t.equals("and")) push(awaited, "and", "UNIT", "MOREUNITS");
                    continue;
                case "UNIT":
                    if (t.equals("not")) push(awaited, "OPEN", "UNIT", "#close");
                    else if (t.equals("[")) push(awaited, "OPEN", "TRUTH", "]", "#close");
                    else push(awaited, "SUM", "COMPARED", "SUM");
                    continue;
                case "ATOM":
                    if (t.equals("(")) push(awaited, "OPEN", "SUM", ")", "#close");
                    else if (t.equals("if")) push(awaited, "OPEN", "TRUTH", "then", "SUM", "else", "SUM", "end", "#close");
                    else push(awaited, "LEAF");
                    continue;
                default:
            }
            // From here on the token is taken, or there is a fault.
            if (want.isEmpty() && t.isEmpty()) return draft;
            boolean fits;
            if (want.equals("LEAF")) {
                fits = isNumber(t) || List.of("who", "bold", "board", "things").contains(t) || t.equals(ofTells ? "reach" : "breath");
            } else if (want.equals("COMPARED")) {
                fits = List.of("=", "<", ">").contains(t);
            } else if (want.equals("OPEN")) {
                fits = true;
            } else if (want.startsWith("N") && want.contains("=")) {
                fits = isNumber(t);
            } else {
                fits = want.equals(t);
            }
            if (!fits || t.isEmpty()) return failed(2, token);
            if (want.startsWith("N") && want.contains("=")) {
                int n = Integer.parseInt(t);
                if (n > Integer.parseInt(want.substring(1, want.indexOf('=')))) return failed(3, token);
                set(draft, want.substring(want.indexOf('=') + 1), n);
            }
            if (want.equals("thing")) {
                if (draft.things.size() == 6) return failed(4, token);
                draft.things.add(new int[3]);
            }
            if (want.equals("goer")) {
                if (draft.goers.size() == 6) return failed(4, token);
                draft.goers.add(new int[] {0, 0, 1});
            }
            if (want.equals("there")) draft.there |= 1 << (draft.things.size() - 1);
            if (want.equals("OPEN")) {
                open++;
                if (open > 6) return failed(4, token);
            }
            if (want.equals("reaches") || want.equals("tells")) ofTells = want.equals("tells");
            if (want.equals(":")) law.clear();
            else law.add(t);
            at++;
        }
    }

    private static void push(Deque<String> awaited, String... wants) {
        for (int i = wants.length - 1; i >= 0; i--) awaited.push(wants[i]);
    }

    private static void set(Told draft, String what, int n) {
        int[] thing = draft.things.isEmpty() ? null : draft.things.get(draft.things.size() - 1);
        int[] goer = draft.goers.isEmpty() ? null : draft.goers.get(draft.goers.size() - 1);
        switch (what) {
            case "board": draft.board = n; break;
            case "depth": thing[0] = n; break;
            case "guard": thing[1] = n; break;
            case "needs": thing[2] |= 1 << n; break;
            case "breath": goer[0] = n; break;
            case "bold": goer[1] = n; break;
            default: goer[2] = n; break;
        }
    }

    private Told failed(int why, Token token) {
        fault = why;
        place = token.place;
        return null;
    }

    // ---- laws, worked out of their tokens by cutting them at the last sign that stands outside all brackets

    private static int cut(List<String> law, String... signs) {
        int open = 0;
        for (int i = law.size() - 1; i >= 0; i--) {
            String t = law.get(i);
            if (t.equals(")") || t.equals("]") || t.equals("end")) open++;
            if (open == 0 && Arrays.asList(signs).contains(t)) return i;
            if (t.equals("(") || t.equals("[") || t.equals("if")) open--;
        }
        return -1;
    }

    private static long clamp(long n, long least, long most) {
        return Math.max(least, Math.min(most, n));
    }

    private static long sum(List<String> law, Map<String, Integer> known) {
        int i = cut(law, "+", "-");
        if (i < 0) i = cut(law, "*");
        if (i >= 0) {
            long left = sum(law.subList(0, i), known);
            long right = sum(law.subList(i + 1, law.size()), known);
            String sign = law.get(i);
            long all = sign.equals("+") ? left + right : sign.equals("-") ? left - right : left * right;
            return clamp(all, -1000000, 1000000);
        }
        String t = law.get(0);
        if (t.equals("(")) return sum(law.subList(1, law.size() - 1), known);
        if (t.equals("if")) {
            List<String> inner = law.subList(1, law.size() - 1);
            int then = cut(inner, "then");
            int or = cut(inner, "else");
            boolean holds = truth(inner.subList(0, then), known);
            return sum(holds ? inner.subList(then + 1, or) : inner.subList(or + 1, inner.size()), known);
        }
        return known.containsKey(t) ? known.get(t) : Integer.parseInt(t);
    }

    private static boolean truth(List<String> law, Map<String, Integer> known) {
        int i = cut(law, "or");
        if (i >= 0) return truth(law.subList(0, i), known) | truth(law.subList(i + 1, law.size()), known);
        i = cut(law, "and");
        if (i >= 0) return truth(law.subList(0, i), known) & truth(law.subList(i + 1, law.size()), known);
        if (law.get(0).equals("not")) return !truth(law.subList(1, law.size()), known);
        if (law.get(0).equals("[")) return truth(law.subList(1, law.size() - 1), known);
        i = cut(law, "=", "<", ">");
        long left = sum(law.subList(0, i), known);
        long right = sum(law.subList(i + 1, law.size()), known);
        return law.get(i).equals("=") ? left == right : law.get(i).equals("<") ? left < right : left > right;
    }

    // ---- dives

    private Dive look(State state, int g, int breath, int bold) {
        Map<String, Integer> known = new HashMap<>();
        known.put("who", g);
        known.put("bold", bold);
        known.put("board", state.board);
        known.put("things", Integer.bitCount(state.things));
        known.put("breath", breath);
        long reach = told.reaches == null ? breath : clamp(sum(told.reaches, known), 0, 99);
        for (int t = 0; t < told.things.size(); t++) {
            int[] thing = told.things.get(t);
            if (is(state.things, t) && thing[1] > bold && thing[0] < reach) reach = thing[0];
        }
        int things = state.things;
        for (int t = 0; t < told.things.size(); t++) {
            int[] thing = told.things.get(t);
            boolean allNeeds = true;
            for (int o = 0; o < 6; o++) {
                if (is(thing[2], o) && !is(state.things, o)) allNeeds = false;
            }
            if (thing[0] <= reach && allNeeds) things |= 1 << t;
        }
        known.put("reach", (int) reach);
        long post = told.tells == null ? state.board + 1 : sum(told.tells, known);
        return new Dive((int) reach, new State((int) clamp(post, 0, 99), things));
    }

    private final Map<List<Object>, State> behind = new HashMap<>();

    private Dive look(State state, int g) {
        return look(state, g, now.breath.get(g), now.bold.get(g));
    }

    private State after(State state, int g) {
        return behind.computeIfAbsent(List.of(state, g, now.breath.get(g), now.bold.get(g)), key -> look(state, g).behind);
    }

    private static boolean is(int bits, int i) {
        return (bits & (1 << i)) != 0;
    }

    private boolean isThing(int t) {
        return t >= 0 && t < told.things.size();
    }

    private boolean isGoer(int g) {
        return g >= 0 && g < told.goers.size();
    }

    private boolean isSet(int set) {
        return set >= 0 && set < 1 << told.goers.size();
    }

    private static List<Integer> with(List<Integer> list, int i, int n) {
        List<Integer> made = new ArrayList<>(list);
        made.set(i, n);
        return made;
    }

    /** The stand behind a deed, or why it can't be (an Integer). */
    private Object deed(Stand s, long v) {
        if (v >= 0 && v <= 9) return diveDeed(s, (int) v);
        if (v >= 1000 && v <= 1999) return sayDeed(s, (int) (v - 1000) / 100, (int) (v % 100));
        if (v >= 2000 && v <= 2009) return wipeDeed(s, (int) v - 2000);
        if (v >= 3000 && v <= 3099) return boldDeed(s, (int) (v - 3000) / 10, (int) (v % 10));
        return 1;
    }

    private Object diveDeed(Stand s, int g) {
        if (!isGoer(g)) return 1;
        return new Stand(look(s.state, g, s.breath.get(g), s.bold.get(g)).behind, s.breath, s.bold);
    }

    private Object sayDeed(Stand s, int g, int n) {
        if (!isGoer(g) || n < 0 || n > 99) return 1;
        Dive d = look(s.state, g, s.breath.get(g), s.bold.get(g));
        if (n < d.reach) return 2;
        return new Stand(new State(n, d.behind.things), s.breath, s.bold);
    }

    private Object wipeDeed(Stand s, int t) {
        if (!isThing(t)) return 1;
        if (!is(s.state.things, t)) return 2;
        return new Stand(new State(s.state.board, s.state.things - (1 << t)), s.breath, s.bold);
    }

    private Object boldDeed(Stand s, int g, int n) {
        if (!isGoer(g) || n < 0 || n > 9) return 1;
        return new Stand(s.state, s.breath, with(s.bold, g, n));
    }

    private void goOn(Stand next) {
        past.push(now);
        if (past.size() > 10) past.removeLast();
        now = next;
    }

    // ---- the face

    int feed(int... five) {
        if (tape.size() + 20 > 900) return -5;
        for (int n : five) {
            for (int i = 3; i >= 0; i--) tape.add(n >> 8 * i & 255);
        }
        return tape.size();
    }

    int pool(int n) {
        if (n < 0 || n > tape.size()) return -3;
        StringBuilder text = new StringBuilder();
        for (int i = 0; i < n; i++) text.append((char) (int) tape.get(i));
        tape.clear();
        Told draft = parse(text.toString());
        if (draft == null) return -30 - fault;
        told = draft;
        behind.clear();
        List<Integer> breath = new ArrayList<>();
        List<Integer> bold = new ArrayList<>();
        for (int[] goer : told.goers) {
            breath.add(goer[0]);
            bold.add(goer[1]);
        }
        now = new Stand(new State(told.board, told.there), breath, bold);
        past.clear();
        return told.lines;
    }

    int fault(int what) {
        return what == 0 ? fault : what == 1 ? place : -1;
    }

    int thing(int t, int what) {
        if (!isThing(t) || what < 0 || what > 3) return -2;
        return what == 3 ? (is(now.state.things, t) ? 1 : 0) : told.things.get(t)[what];
    }

    int goer(int g, int what) {
        if (!isGoer(g) || what < 0 || what > 4) return -2;
        Dive d = look(now.state, g);
        return new int[] {now.breath.get(g), now.bold.get(g), told.goers.get(g)[2], d.reach, d.behind.board}[what];
    }

    int shows(int g) {
        return isGoer(g) ? look(now.state, g).behind.things : -2;
    }

    int truthful() {
        int set = 0;
        for (int g = 0; g < told.goers.size(); g++) {
            Dive d = look(now.state, g);
            if (d.reach == d.behind.board) set += 1 << g;
        }
        return set;
    }

    private boolean did(Object what) {
        if (what instanceof Stand next) {
            goOn(next);
            return true;
        }
        return false;
    }

    int dive(int g) {
        return did(diveDeed(now, g)) ? now.state.board : -11;
    }

    int say(int g, int n) {
        Object what = sayDeed(now, g, n);
        if (what instanceof Integer why) return -10 - why;
        int reach = look(now.state, g).reach;
        did(what);
        return reach;
    }

    int wipe(int t) {
        Object what = wipeDeed(now, t);
        if (what instanceof Integer why) return -10 - why;
        did(what);
        return Integer.bitCount(now.state.things);
    }

    int breath(int g, int n) {
        if (!isGoer(g) || n < 0 || n > 99) return -11;
        int was = now.breath.get(g);
        goOn(new Stand(now.state, with(now.breath, g, n), now.bold));
        return was;
    }

    int bold(int g, int n) {
        Object what = boldDeed(now, g, n);
        if (what instanceof Integer why) return -10 - why;
        int was = now.bold.get(g);
        did(what);
        return was;
    }

    int undo(int n) {
        if (n < 1 || n > 10 || n > past.size()) return -3;
        for (int i = 0; i < n; i++) now = past.pop();
        return past.size();
    }

    int judge(int tray, int what) {
        if (tray < 0 || tray > 3 || what < 0 || what > 3) return -2;
        if (trays[tray] == null) return -6;
        Stand s = now;
        int at = -1;
        int why = 0;
        for (int i = 0; i < trays[tray].length && at < 0; i++) {
            Object next = deed(s, trays[tray][i]);
            if (next instanceof Stand stand) {
                s = stand;
            } else {
                at = i;
                why = (Integer) next;
            }
        }
        return new int[] {at, why, s.state.things, s.state.board}[what];
    }

    int perform(int tray) {
        if (tray < 0 || tray > 3) return -2;
        if (trays[tray] == null) return -6;
        Stand s = now;
        int done = 0;
        while (done < trays[tray].length && deed(s, trays[tray][done]) instanceof Stand stand) {
            s = stand;
            done++;
        }
        if (done > 0) goOn(s);
        return done;
    }

    private int seed;

    private int draw() {
        seed = 1103515245 * seed + 12345;
        return seed >>> 16;
    }

    int summer(int from, int times) {
        if (times < 1 || times > 40) return -3;
        seed = from;
        Stand s = now;
        int done = 0;
        for (int i = 0; i < times; i++) {
            int kind = draw() % 6;
            int who = draw() % 6;
            Object next = kind < 4 ? diveDeed(s, who) : kind == 4 ? wipeDeed(s, who) : boldDeed(s, who, draw() % 10);
            if (next instanceof Stand stand) {
                s = stand;
                done++;
            }
        }
        if (done > 0) goOn(s);
        return done;
    }

    /** The first of the shortest rows to each state, as a text of goers; in no order. */
    private Map<State, String> firstRows(int set) {
        Map<State, String> rows = new HashMap<>();
        rows.put(now.state, "");
        Map<State, String> latest = new HashMap<>(rows);
        while (!latest.isEmpty()) {
            Map<State, String> next = new HashMap<>();
            for (Map.Entry<State, String> e : latest.entrySet()) {
                for (int g = 0; g < told.goers.size(); g++) {
                    if (!is(set, g)) continue;
                    State s = after(e.getKey(), g);
                    if (!rows.containsKey(s)) next.merge(s, e.getValue() + g, (a, b) -> a.compareTo(b) < 0 ? a : b);
                }
            }
            rows.putAll(next);
            latest = next;
        }
        return rows;
    }

    private static String lesser(String a, String b) {
        if (a == null || b.length() < a.length() || b.length() == a.length() && b.compareTo(a) < 0) return b;
        return a;
    }

    private String coming(int t, int set) {
        String first = null;
        for (Map.Entry<State, String> e : firstRows(set).entrySet()) {
            if (is(e.getKey().things, t)) first = lesser(first, e.getValue());
        }
        return first;
    }

    private String comingOfNumber(int n, int set) {
        String first = null;
        for (Map.Entry<State, String> e : firstRows(set).entrySet()) {
            if (e.getKey().board == n) first = lesser(first, e.getValue());
        }
        return first;
    }

    private static int goerAt(String row, int i) {
        return row == null || i >= row.length() ? -1 : row.charAt(i) - '0';
    }

    int soonest(int t, int set) {
        if (!isThing(t)) return -2;
        if (!isSet(set)) return -3;
        String row = coming(t, set);
        return row == null ? -1 : row.length();
    }

    int way(int t, int set, int i) {
        if (!isThing(t)) return -2;
        if (!isSet(set) || i < 0) return -3;
        return goerAt(coming(t, set), i);
    }

    int tells(int n, int set) {
        if (n < 0 || n > 99 || !isSet(set)) return -3;
        String row = comingOfNumber(n, set);
        return row == null ? -1 : row.length();
    }

    int tellsBy(int n, int set, int i) {
        if (n < 0 || n > 99 || !isSet(set) || i < 0) return -3;
        return goerAt(comingOfNumber(n, set), i);
    }

    private long rowsFrom(State s, int t, int n, Map<List<Object>, Long> memo) {
        if (n == 0) return is(s.things, t) ? 1 : 0;
        List<Object> key = List.of(s, n);
        if (memo.containsKey(key)) return memo.get(key);
        long all = 0;
        for (int g = 0; g < told.goers.size(); g++) all += rowsFrom(after(s, g), t, n - 1, memo);
        memo.put(key, all);
        return all;
    }

    long rows(int t, int n) {
        if (!isThing(t)) return -2;
        if (n < 0 || n > 12) return -3;
        return rowsFrom(now.state, t, n, new HashMap<>());
    }

    int needed(int t) {
        if (!isThing(t)) return -2;
        int all = (1 << told.goers.size()) - 1;
        if (is(now.state.things, t) || coming(t, all) == null) return 0;
        int set = 0;
        for (int g = 0; g < told.goers.size(); g++) {
            if (coming(t, all - (1 << g)) == null) set += 1 << g;
        }
        return set;
    }

    int fewest(int t) {
        if (!isThing(t)) return -2;
        int least = -1;
        for (int set = 0; set < 1 << told.goers.size(); set++) {
            if (least >= 0 && Integer.bitCount(set) >= Integer.bitCount(least)) continue;
            if (coming(t, set) != null) least = set;
        }
        return least;
    }

    private Set<Integer> boards(int set) {
        Set<Integer> all = new TreeSet<>();
        for (State s : firstRows(set).keySet()) all.add(s.board);
        return all;
    }

    int deepest(int set) {
        return isSet(set) ? ((TreeSet<Integer>) boards(set)).last() : -3;
    }

    int shallowest(int set) {
        return isSet(set) ? ((TreeSet<Integer>) boards(set)).first() : -3;
    }

    int numbersTold(int set) {
        return isSet(set) ? boards(set).size() : -3;
    }

    int possible(int set) {
        if (!isSet(set)) return -3;
        int things = 0;
        for (State s : firstRows(set).keySet()) things |= s.things;
        return things;
    }

    int stands(int set) {
        return isSet(set) ? firstRows(set).size() : -3;
    }

    private int postedCode(int tray) {
        if (tray < 0 || tray > 3) return -2;
        if (trays[tray] == null) return -6;
        if (trays[tray].length < 1 || trays[tray].length > 12) return -4;
        for (long v : trays[tray]) {
            if (v != -1 && (v < 0 || v > 99)) return -3;
        }
        return 0;
    }

    private long postedFrom(State s, long[] seen, int i, Map<List<Object>, Long> memo) {
        if (i == seen.length) return 1;
        List<Object> key = List.of(s, i);
        if (memo.containsKey(key)) return memo.get(key);
        long all = 0;
        for (int g = 0; g < told.goers.size(); g++) {
            State next = after(s, g);
            if (seen[i] == -1 || seen[i] == next.board) all += postedFrom(next, seen, i + 1, memo);
        }
        memo.put(key, all);
        return all;
    }

    long posted(int tray) {
        int code = postedCode(tray);
        return code != 0 ? code : postedFrom(now.state, trays[tray], 0, new HashMap<>());
    }

    int whoPosted(int tray, int i) {
        int code = postedCode(tray);
        if (code != 0) return code;
        if (i < 0) return -3;
        long[] seen = trays[tray];
        Map<List<Object>, Long> memo = new HashMap<>();
        if (i >= seen.length || postedFrom(now.state, seen, 0, memo) == 0) return -1;
        State s = now.state;
        for (int k = 0; ; k++) {
            for (int g = 0; ; g++) {
                State next = after(s, g);
                if ((seen[k] == -1 || seen[k] == next.board) && postedFrom(next, seen, k + 1, memo) > 0) {
                    if (k == i) return g;
                    s = next;
                    break;
                }
            }
        }
    }

    int suspects(int tray) {
        int code = postedCode(tray);
        if (code != 0) return code;
        long[] seen = trays[tray];
        Map<List<Object>, Long> memo = new HashMap<>();
        int set = 0;
        Set<State> here = new HashSet<>(List.of(now.state));
        for (int k = 0; k < seen.length; k++) {
            Set<State> next = new HashSet<>();
            for (State s : here) {
                for (int g = 0; g < told.goers.size(); g++) {
                    State n = after(s, g);
                    if ((seen[k] == -1 || seen[k] == n.board) && postedFrom(n, seen, k + 1, memo) > 0) {
                        next.add(n);
                        set |= 1 << g;
                    }
                }
            }
            here = next;
        }
        return set;
    }

    /** Where a goer that is so bold stands behind all that was posted; null if it is not so. */
    private State alone(long[] seen, int g, int bold) {
        State s = now.state;
        for (long v : seen) {
            s = look(s, g, now.breath.get(g), bold).behind;
            if (v != -1 && v != s.board) return null;
        }
        return s;
    }

    int bolds(int tray, int g) {
        if (tray < 0 || tray > 3 || !isGoer(g)) return -2;
        int code = postedCode(tray);
        if (code != 0) return code;
        int set = 0;
        for (int b = 0; b < 10; b++) {
            if (alone(trays[tray], g, b) != null) set += 1 << b;
        }
        return set;
    }

    int nexts(int tray, int g) {
        if (tray < 0 || tray > 3 || !isGoer(g)) return -2;
        int code = postedCode(tray);
        if (code != 0) return code;
        Set<Integer> posts = new HashSet<>();
        for (int b = 0; b < 10; b++) {
            State s = alone(trays[tray], g, b);
            if (s != null) posts.add(look(s, g, now.breath.get(g), b).behind.board);
        }
        return posts.size();
    }

    /** Round by round: what is forced within n turns, by what is within n - 1. */
    private int forcedFrom(int t, int first, int second, State start, int startSide) {
        Map<Side, List<Side>> sends = new HashMap<>();
        Deque<Side> open = new ArrayDeque<>(List.of(new Side(start, startSide)));
        while (!open.isEmpty()) {
            Side p = open.pop();
            if (sends.containsKey(p)) continue;
            int set = p.toSend == 0 ? first : second;
            List<Side> next = new ArrayList<>();
            for (int g = 0; g < told.goers.size(); g++) {
                if (is(set, g)) next.add(new Side(after(p.state, g), 1 - p.toSend));
            }
            if (set == 0) next.add(new Side(p.state, 1 - p.toSend));
            sends.put(p, next);
            open.addAll(next);
        }
        Set<Side> within = new HashSet<>();
        for (Side p : sends.keySet()) {
            if (is(p.state.things, t)) within.add(p);
        }
        for (int n = 0; ; n++) {
            if (within.contains(new Side(start, startSide))) return n;
            Set<Side> more = new HashSet<>(within);
            for (Map.Entry<Side, List<Side>> e : sends.entrySet()) {
                boolean any = false;
                boolean all = true;
                for (Side s : e.getValue()) {
                    if (within.contains(s)) any = true;
                    else all = false;
                }
                if (e.getKey().toSend == 0 ? any : all) more.add(e.getKey());
            }
            if (more.size() == within.size()) return -1;
            within = more;
        }
    }

    int forces(int t, int first, int second) {
        if (!isThing(t)) return -2;
        if (!isSet(first) || !isSet(second)) return -3;
        return forcedFrom(t, first, second, now.state, 0);
    }

    int best(int t, int first, int second) {
        int in = forces(t, first, second);
        if (in < -1) return in;
        if (in <= 0) return -1;
        for (int g = 0; g < told.goers.size(); g++) {
            if (is(first, g) && forcedFrom(t, first, second, after(now.state, g), 1) == in - 1) return g;
        }
        return -1;
    }

    int power(int first, int second) {
        if (!isSet(first) || !isSet(second)) return -3;
        int set = 0;
        for (int t = 0; t < told.things.size(); t++) {
            if (forces(t, first, second) >= 0) set += 1 << t;
        }
        return set;
    }

    private int allOdds() {
        int all = 0;
        for (int[] goer : told.goers) all += goer[2];
        return all;
    }

    private BigInteger weight(State s, int t, int n) {
        if (n == 0) return is(s.things, t) ? BigInteger.ONE : BigInteger.ZERO;
        BigInteger all = BigInteger.ZERO;
        for (int g = 0; g < told.goers.size(); g++) {
            int odds = told.goers.get(g)[2];
            if (odds > 0) all = all.add(weight(after(s, g), t, n - 1).multiply(BigInteger.valueOf(odds)));
        }
        return all;
    }

    private BigInteger[] fraction(int t, int n) {
        int dives = allOdds() == 0 ? 0 : n;
        BigInteger above = weight(now.state, t, dives);
        BigInteger below = BigInteger.valueOf(Math.max(1, allOdds())).pow(dives);
        BigInteger shared = above.gcd(below);
        return new BigInteger[] {above.divide(shared), below.divide(shared)};
    }

    long chance(int t, int n, int what) {
        if (!isThing(t) || what < 0 || what > 1) return -2;
        if (n < 0 || n > 6) return -3;
        return fraction(t, n)[what].longValueExact();
    }

    int likeliest(int n) {
        if (n < 0 || n > 6) return -3;
        int found = -1;
        BigInteger[] most = null;
        for (int t = 0; t < told.things.size(); t++) {
            if (is(now.state.things, t)) continue;
            BigInteger[] f = fraction(t, n);
            if (most == null || f[0].multiply(most[1]).compareTo(most[0].multiply(f[1])) > 0) {
                most = f;
                found = t;
            }
        }
        return found;
    }

    int numbers(int tray, int sort, int n) {
        if (tray < 0 || tray > 3 || sort < 0 || sort > 3) return -2;
        if (n < 0 || n > 40) return -3;
        trays[tray] = new long[n];
        sorts[tray] = sort;
        return 0;
    }

    long write(int tray, int i, long v) {
        if (tray < 0 || tray > 3) return -2;
        if (trays[tray] == null) return -6;
        if (i < 0 || i >= trays[tray].length) return -7;
        int cut = 64 - (8 << sorts[tray]);
        trays[tray][i] = v << cut >> cut;
        return trays[tray][i];
    }

    int lists(int tray, int t, int set) {
        if (tray < 0 || tray > 3 || !isThing(t)) return -2;
        if (trays[tray] == null) return -6;
        if (!isSet(set)) return -3;
        String row = coming(t, set);
        if (row == null) return -5;
        int i = 0;
        while (i < row.length() && i < trays[tray].length) {
            trays[tray][i] = row.charAt(i) - '0';
            i++;
        }
        return i;
    }

    int image(int i) {
        if (i < 0 || i > 1) return -2;
        imageTold[i] = told;
        imageStand[i] = now;
        return 0;
    }

    int restore(int i) {
        if (i < 0 || i > 1) return -2;
        if (imageTold[i] == null) return -5;
        told = imageTold[i];
        now = imageStand[i];
        past.clear();
        behind.clear();
        return 0;
    }

    int count(int what) {
        int most = -1;
        for (int[] thing : told.things) most = Math.max(most, thing[0]);
        int[] all = {now.state.board, told.things.size(), now.state.things, told.goers.size(), allOdds(), most,
            past.size(), tape.size(), told.lines};
        return what < 0 || what >= all.length ? -1 : all[what];
    }
}
