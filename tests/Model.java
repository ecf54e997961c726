import java.math.BigInteger;
import java.util.ArrayList;
import java.util.Collections;
import java.util.HashMap;
import java.util.List;
import java.util.Map;
import java.util.TreeMap;
import java.util.TreeSet;

/** The document once more, in the plainest and slowest way, to hold OnePen against. */
final class Model {
    static final class Fault extends RuntimeException {
        private static final long serialVersionUID = 1L;
        final int number;
        Fault(int place, int code) { super(null, null, false, false); number = 1 + 8 * place + code; }
    }

    static final class Paper implements Cloneable {
        int clerk, strokes, due, worth, minute = -1;
        boolean isVoid, isBlank;
        TreeSet<Integer> rests = new TreeSet<>();
        Paper copy() {
            Paper p = new Paper();
            p.clerk = clerk; p.strokes = strokes; p.due = due; p.worth = worth; p.minute = minute;
            p.isVoid = isVoid; p.isBlank = isBlank; p.rests = new TreeSet<>(rests);
            return p;
        }
        boolean signed() { return minute >= 0; }
        boolean inTime() { return signed() && !isVoid && minute <= due; }
    }

    /** An office with all that acts change. */
    static final class State {
        boolean told;
        int ink, nib, fill, minute, at = -1, hasInk, hasNib;
        List<Integer> seats = new ArrayList<>();
        List<int[]> aways = new ArrayList<>();
        List<Paper> papers = new ArrayList<>();
        State copy() {
            State s = new State();
            s.told = told; s.ink = ink; s.nib = nib; s.fill = fill; s.minute = minute; s.at = at;
            s.hasInk = hasInk; s.hasNib = hasNib;
            s.seats.addAll(seats); s.aways.addAll(aways);
            for (Paper p : papers) s.papers.add(p.copy());
            return s;
        }
        boolean away(int clerk, int t) {
            for (int[] a : aways) if (a[0] == clerk && a[1] <= t && t <= a[2]) return true;
            return false;
        }
        boolean free(int clerk, int from, int many) {
            for (int t = from; t < from + many; t++) if (away(clerk, t)) return false;
            return true;
        }
        /** The first minute of the strokes, or -1; the state is as behind it then. */
        int sign(int number, boolean ownPen) {
            Paper p = papers.get(number);
            if (p.signed()) return -1;
            int t = minute, i = hasInk, n = hasNib;
            if (i < p.strokes) {
                int times = 0;
                while (times * ink < p.strokes) times++;
                t += times * fill;
                i = times * ink;
            }
            boolean crosses = false;
            if (n < p.strokes) {
                t += 3;
                n = nib;
                crosses = n < p.strokes;
            }
            t += Math.abs(seats.get(at) - seats.get(p.clerk));
            while (!free(p.clerk, t, p.strokes)) t++;
            if (t + p.strokes > 9999) return -1;
            boolean bad = false;
            for (int r : p.rests) {
                Paper q = papers.get(r);
                if (q != null && (!q.signed() || q.isVoid)) bad = true;
            }
            p.isVoid = crosses || bad && !p.isBlank;
            p.minute = t + p.strokes;
            minute = p.minute;
            hasInk = i - p.strokes;
            hasNib = crosses ? 0 : n - p.strokes;
            at = p.clerk;
            return t;
        }
        int worth() {
            int w = 0;
            for (Paper p : papers) if (p != null && p.inTime()) w += p.worth;
            return w;
        }
        List<Integer> open() {
            List<Integer> l = new ArrayList<>();
            for (int k = 0; k < papers.size(); k++) if (!papers.get(k).signed()) l.add(k);
            return l;
        }
    }

    final List<Integer> tape = new ArrayList<>();
    final List<String> rules = new ArrayList<>();
    State s = new State();
    List<int[]> logs = new ArrayList<>();
    List<State> acts = new ArrayList<>();
    long x;
    final Map<Integer, Object[]> images = new HashMap<>();

    // ---- languages

    String text = "";
    int pos;
    int things;

    void blanks() { while (pos < text.length() && text.charAt(pos) == ' ') pos++; }
    char peek() { blanks(); return pos < text.length() ? text.charAt(pos) : 0xffff; }
    String peekWord() {
        blanks();
        int e = pos;
        while (e < text.length() && text.charAt(e) >= 'a' && text.charAt(e) <= 'z') e++;
        return text.substring(pos, e);
    }
    int number(int low, int high) {
        blanks();
        int e = pos;
        while (e < text.length() && text.charAt(e) >= '0' && text.charAt(e) <= '9') e++;
        if (e == pos) throw new Fault(pos, 0);
        BigInteger b = new BigInteger(text.substring(pos, e));
        if (e - pos > 5 || b.intValue() < low || b.intValue() > high) throw new Fault(pos, 1);
        pos = e;
        return b.intValue();
    }
    String takeTape() {
        StringBuilder b = new StringBuilder();
        for (int v : tape) b.append((char) v);
        tape.clear();
        return b.toString();
    }

    State parseOffice(String t) {
        text = t; pos = 0;
        State o = new State();
        o.told = true;
        for (int clause = 1; ; clause++) {
            String w = peekWord();
            int head = pos;
            if (!List.of("office", "clerk", "away", "paper", "rests").contains(w)) throw new Fault(head, 0);
            boolean full = w.equals("clerk") && o.seats.size() == 4 || w.equals("away") && o.aways.size() == 6
                || w.equals("paper") && o.papers.size() == 6;
            if (clause > 40 || w.equals("office") != (clause == 1) || full) throw new Fault(head, 4);
            pos += w.length();
            switch (w) {
                case "office" -> { o.ink = number(1, 99); o.nib = number(1, 200); o.fill = number(0, 20); }
                case "clerk" -> o.seats.add(number(0, 20));
                case "away" -> {
                    int c = number(0, o.seats.size() - 1);
                    int f = number(0, 299);
                    o.aways.add(new int[] {c, f, number(f, 299)});
                }
                case "paper" -> {
                    Paper p = new Paper();
                    p.clerk = number(0, o.seats.size() - 1);
                    p.strokes = number(1, 20); p.due = number(0, 299); p.worth = number(1, 30);
                    o.papers.add(p);
                }
                default -> {
                    int a = number(0, o.papers.size() - 1);
                    blanks();
                    int place = pos;
                    int b = number(0, o.papers.size() - 1);
                    if (a == b) throw new Fault(place, 1);
                    o.papers.get(a).rests.add(b);
                }
            }
            if (peek() == 0xffff && pos == text.length()) break;
            if (peek() != ';') throw new Fault(pos, 0);
            pos++;
        }
        o.hasInk = o.ink; o.hasNib = o.nib; o.at = o.seats.isEmpty() ? -1 : 0;
        return o;
    }

    /** What a paper's words are; null: the text is only read. */
    Map<String, Long> words;
    static final List<String> WORDS = List.of("paper", "clerk", "strokes", "due", "worth", "way", "left", "needs",
        "bears", "ink", "nib", "minute", "begins");

    Long evaluate(String t, Map<String, Long> w) {
        text = t; pos = 0; things = 0; words = w;
        Long answer = null;
        for (int clause = 1; ; clause++) {
            if (!peekWord().equals("sign")) throw new Fault(pos, 0);
            if (clause > 12) throw new Fault(pos, 4);
            pos += 4;
            long sum = sum();
            boolean holds = true;
            if (peekWord().equals("if")) { pos += 2; holds = test(0); }
            if (holds && answer == null) answer = sum;
            if (peek() == 0xffff && pos == text.length()) break;
            if (peek() != ';') throw new Fault(pos, 0);
            pos++;
        }
        return answer == null ? 0 : answer;
    }
    boolean test(int depth) {
        boolean is = part(depth);
        while (peekWord().equals("or")) { pos += 2; is = part(depth) | is; }
        return is;
    }
    boolean part(int depth) {
        boolean is = fact(depth);
        while (peekWord().equals("and")) { pos += 3; is = fact(depth) & is; }
        return is;
    }
    boolean fact(int depth) {
        if (peekWord().equals("not")) {
            if (depth == 10) throw new Fault(pos, 2);
            pos += 3;
            return !fact(depth + 1);
        }
        if (peek() == '[') {
            if (depth == 10) throw new Fault(pos, 2);
            pos++;
            boolean is = test(depth + 1);
            if (peek() != ']') throw new Fault(pos, 0);
            pos++;
            return is;
        }
        long a = sum();
        blanks();
        for (String sign : List.of("<=", ">=", "<", "=", ">")) {
            if (text.startsWith(sign, pos)) {
                if (++things > 60) throw new Fault(pos, 3);
                pos += sign.length();
                long b = sum();
                return sign.equals("<=") ? a <= b : sign.equals(">=") ? a >= b : sign.equals("<") ? a < b
                    : sign.equals("=") ? a == b : a > b;
            }
        }
        throw new Fault(pos, 0);
    }
    long sum() {
        long v = term();
        for (;;) {
            char c = peek();
            if (c == '+') { pos++; v += term(); } else if (c == '-') { pos++; v -= term(); } else return v;
        }
    }
    long term() {
        long v = value();
        for (;;) {
            char c = peek();
            if (c != '*' && c != '/' && c != '%') return v;
            pos++;
            long w = value();
            if (c == '*') v = BigInteger.valueOf(v).multiply(BigInteger.valueOf(w)).longValue();
            else if (w == 0) v = 0;
            else v = c == '/' ? BigInteger.valueOf(v).divide(BigInteger.valueOf(w)).longValue()
                : BigInteger.valueOf(v).remainder(BigInteger.valueOf(w)).longValue();
        }
    }
    long value() {
        char c = peek();
        if (c >= '0' && c <= '9') {
            int place = pos;
            int n = number(0, 99999);
            if (++things > 60) throw new Fault(place, 3);
            return n;
        }
        String w = peekWord();
        if (!WORDS.contains(w)) throw new Fault(pos, 0);
        if (++things > 60) throw new Fault(pos, 3);
        pos += w.length();
        return words == null ? 0 : words.get(w);
    }

    // ---- the face

    int feed(int a, int b, int c, int d, int e) {
        if (tape.size() > 380) return -1;
        for (int n : new int[] {a, b, c, d, e}) for (int k = 3; k >= 0; k--) tape.add(n >>> 8 * k & 255);
        return tape.size();
    }
    int end(int n) {
        if (n < 0 || tape.size() < n) return -1;
        while (tape.size() > n) tape.remove(tape.size() - 1);
        return n;
    }
    int office() {
        try {
            s = parseOffice(takeTape());
            logs.clear(); acts.clear();
            return s.papers.size();
        } catch (Fault f) { return -2 - f.number; }
    }
    int rule() {
        if (rules.size() == 6) return -1;
        String t = takeTape();
        try { evaluate(t, null); } catch (Fault f) { return -2 - f.number; }
        rules.add(t);
        return rules.size() - 1;
    }
    static int bits(Iterable<Integer> l) {
        int b = 0;
        for (int k : l) b |= 1 << k;
        return b;
    }
    boolean isPaper(int p) { return p >= 0 && p < s.papers.size(); }
    boolean isClerk(int c) { return c >= 0 && c < s.seats.size(); }
    int paper(int paper, int what) {
        if (!isPaper(paper)) return -2;
        Paper p = s.papers.get(paper);
        int[] all = {p.clerk, p.strokes, p.due, p.worth, p.minute, p.isVoid ? 1 : 0, p.isBlank ? 1 : 0,
            p.inTime() ? 1 : 0, bits(p.rests)};
        return what < 0 || what > 8 ? -2 : all[what];
    }
    List<Integer> of(int clerk) {
        List<Integer> l = new ArrayList<>();
        for (int k = 0; k < s.papers.size(); k++) if (s.papers.get(k).clerk == clerk) l.add(k);
        return l;
    }
    int clerk(int clerk, int what) {
        if (!isClerk(clerk)) return -1;
        List<Integer> open = of(clerk);
        open.retainAll(s.open());
        int[] all = {s.seats.get(clerk), s.away(clerk, s.minute) ? 1 : 0, bits(of(clerk)), bits(open)};
        return what < 0 || what > 3 ? -1 : all[what];
    }
    void act(State next) {
        acts.add(s);
        if (acts.size() > 20) acts.remove(0);
        s = next;
    }
    int sign(int paper) {
        if (!isPaper(paper)) return -1;
        State n = s.copy();
        if (n.sign(paper, true) < 0) return -1;
        act(n);
        return n.minute;
    }
    int blank(int paper) {
        if (!isPaper(paper) || s.papers.get(paper).signed() || s.papers.get(paper).isBlank) return -1;
        State n = s.copy();
        n.papers.get(paper).isBlank = true;
        act(n);
        int many = 0;
        for (Paper p : n.papers) if (p.isBlank) many++;
        return many;
    }
    int await(int minutes) {
        if (!s.told || minutes < 1 || minutes > 100 || s.minute + minutes > 9999) return -1;
        State n = s.copy();
        n.minute += minutes;
        act(n);
        return n.minute;
    }
    int filling() {
        if (!s.told || s.hasInk >= s.ink || s.minute + s.fill > 9999) return -1;
        State n = s.copy();
        int had = n.hasInk;
        n.minute += s.fill;
        n.hasInk = n.ink;
        act(n);
        return had;
    }
    int change() {
        if (!s.told || s.hasNib >= s.nib || s.minute + 3 > 9999) return -1;
        State n = s.copy();
        int had = n.hasNib;
        n.minute += 3;
        n.hasNib = n.nib;
        act(n);
        return had;
    }
    int undo() {
        if (acts.isEmpty()) return -1;
        s = acts.remove(acts.size() - 1);
        return acts.size();
    }
    int when(int paper, int what) {
        if (!isPaper(paper) || s.papers.get(paper).signed() || what < 0 || what > 2) return -3;
        State n = s.copy();
        if (n.sign(paper, true) < 0) return -2;
        Paper p = n.papers.get(paper);
        return what == 0 ? p.minute : what == 1 ? (p.isVoid ? 1 : 0) : p.inTime() ? 1 : 0;
    }
    /** What the rule signs from now on, into the list; the state behind it. */
    State byRule(int rule, List<Integer> row) {
        State n = s.copy();
        for (;;) {
            long most = 0;
            int best = -1;
            for (int k : n.open()) {
                State m = n.copy();
                int begins = m.sign(k, true);
                if (begins < 0) continue;
                Paper p = n.papers.get(k);
                long needs = 0, bears = 0;
                for (int r : p.rests) if (!n.papers.get(r).signed()) needs++;
                for (Paper q : n.papers) if (!q.signed() && q.rests.contains(k)) bears++;
                Map<String, Long> w = new HashMap<>();
                w.put("paper", (long) k); w.put("clerk", (long) p.clerk); w.put("strokes", (long) p.strokes);
                w.put("due", (long) p.due); w.put("worth", (long) p.worth);
                w.put("way", (long) Math.abs(n.seats.get(n.at) - n.seats.get(p.clerk)));
                w.put("left", (long) p.due - n.minute); w.put("needs", needs); w.put("bears", bears);
                w.put("ink", (long) n.hasInk); w.put("nib", (long) n.hasNib); w.put("minute", (long) n.minute);
                w.put("begins", (long) begins);
                long v = evaluate(rules.get(rule), w);
                if (v > most) { most = v; best = k; }
            }
            if (best < 0) return n;
            n.sign(best, true);
            row.add(best);
        }
    }
    int by(int rule, int what) {
        if (!s.told || rule < 0 || rule >= rules.size() || what < 0 || what > 8) return -3;
        List<Integer> row = new ArrayList<>();
        State n = byRule(rule, row);
        if (what == 0) return n.worth();
        if (what == 1) return n.minute;
        if (what == 2) return row.size();
        return what - 3 < row.size() ? row.get(what - 3) : -2;
    }
    int waits(int clerk, int rule) {
        if (!isClerk(clerk) || rule < 0 || rule >= rules.size()) return -1;
        List<Integer> row = new ArrayList<>();
        State n = byRule(rule, row);
        int last = s.minute, strokes = 0;
        for (int k : row) if (n.papers.get(k).clerk == clerk) {
            last = Math.max(last, n.papers.get(k).minute);
            strokes += n.papers.get(k).strokes;
        }
        return last - s.minute - strokes;
    }
    static void rows(List<Integer> of, List<Integer> begun, List<List<Integer>> into) {
        into.add(new ArrayList<>(begun));
        for (int k : of) if (!begun.contains(k)) {
            begun.add(k);
            rows(of, begun, into);
            begun.remove(begun.size() - 1);
        }
    }
    static int comparePlaces(List<Integer> a, List<Integer> b) {
        for (int k = 0; k < Math.min(a.size(), b.size()); k++) {
            int c = Integer.compare(a.get(k), b.get(k));
            if (c != 0) return c;
        }
        return Integer.compare(a.size(), b.size());
    }
    /** Worth, minute and row of the best row of these, from this state; papers of the others set aside, if so. */
    static Object[] best(State from, List<Integer> of) {
        List<Integer> open = new ArrayList<>();
        for (int k : of) if (!from.papers.get(k).signed()) open.add(k);
        List<List<Integer>> all = new ArrayList<>();
        rows(open, new ArrayList<>(), all);
        Collections.shuffle(all, new java.util.Random(7));
        Object[] best = null;
        next:
        for (List<Integer> row : all) {
            State n = from.copy();
            for (int k : row) if (n.sign(k, true) < 0 || n.papers.get(k).isVoid) continue next;
            int c = best == null ? -1 : Integer.compare((int) best[0], n.worth());
            if (c == 0) c = Integer.compare(n.minute, (int) best[1]);
            @SuppressWarnings("unchecked")
            List<Integer> was = best == null ? null : (List<Integer>) best[2];
            if (c == 0) c = comparePlaces(row, was);
            if (c < 0) best = new Object[] {n.worth(), n.minute, row};
        }
        return best;
    }
    List<Integer> everyPaper() {
        List<Integer> l = new ArrayList<>();
        for (int k = 0; k < s.papers.size(); k++) l.add(k);
        return l;
    }
    @SuppressWarnings("unchecked")
    int plan(int what) {
        if (!s.told || what < 0 || what > 8) return -3;
        Object[] b = best(s, everyPaper());
        List<Integer> row = (List<Integer>) b[2];
        if (what < 2) return (int) b[what];
        if (what == 8) { List<Integer> l = s.open(); l.removeAll(row); return bits(l); }
        return what - 2 < row.size() ? row.get(what - 2) : -2;
    }
    boolean restsOnItself(int paper, List<Integer> over) {
        TreeSet<Integer> seen = new TreeSet<>();
        List<Integer> todo = new ArrayList<>(s.papers.get(paper).rests);
        while (!todo.isEmpty()) {
            int k = todo.remove(0);
            if (!over.contains(k) || !seen.add(k)) continue;
            todo.addAll(s.papers.get(k).rests);
        }
        return seen.contains(paper);
    }
    int rings() {
        if (!s.told) return -1;
        int b = 0;
        for (int k : everyPaper()) if (restsOnItself(k, everyPaper())) b |= 1 << k;
        return b;
    }
    int blanks(int what) {
        if (!s.told || what < 0 || what > 1) return -1;
        List<Integer> pool = new ArrayList<>();
        for (int k : s.open()) if (!s.papers.get(k).isBlank) pool.add(k);
        for (int many = 0; ; many++) {
            next:
            for (int set = 0; set < 64; set++) {
                if (Integer.bitCount(set) != many || (set & ~bits(pool)) != 0) continue;
                List<Integer> rest = new ArrayList<>();
                for (int k : pool) if ((set >> k & 1) == 0) rest.add(k);
                for (int k : rest) if (restsOnItself(k, rest)) continue next;
                return what == 0 ? set : many;
            }
        }
    }
    /** The most worth in time of these papers, if the others were nowhere. */
    static int alone(State from, List<Integer> of) {
        State n = from.copy();
        for (int k = 0; k < n.papers.size(); k++) if (of.contains(k)) n.papers.get(k).rests.retainAll(of);
        Object[] b = best(n, of);
        int others = 0;
        for (int k = 0; k < n.papers.size(); k++) if (!of.contains(k) && n.papers.get(k).inTime()) others += n.papers.get(k).worth;
        return (int) b[0] - others;
    }
    int second(int clerk) {
        if (!isClerk(clerk)) return -1000;
        List<Integer> others = everyPaper();
        others.removeAll(of(clerk));
        State n = s.copy();
        n.at = clerk; n.hasInk = n.ink; n.hasNib = n.nib;
        return alone(n, of(clerk)) + alone(s, others) - plan(0);
    }
    int keep(int what) {
        if (!s.told || what < 0 || what > 1) return -1;
        int who = -2, most = -2;
        for (int c = s.seats.size() - 1; c >= 0; c--) {
            List<Integer> l = everyPaper();
            l.removeAll(of(c));
            int loss = plan(0) - (int) best(s, l)[0];
            if (loss >= most) { most = loss; who = c; }
        }
        return what == 0 ? who : most;
    }
    int late() {
        if (!s.told) return -1;
        List<List<Integer>> all = new ArrayList<>();
        rows(s.open(), new ArrayList<>(), all);
        int least = Integer.MAX_VALUE;
        next:
        for (List<Integer> row : all) {
            if (row.size() != s.open().size()) continue;
            State n = s.copy();
            int sum = 0;
            for (int k : row) {
                if (n.sign(k, true) < 0) continue next;
                if (!n.papers.get(k).inTime()) sum += n.papers.get(k).worth;
            }
            least = Math.min(least, sum);
        }
        return least == Integer.MAX_VALUE ? -2 : least;
    }
    int log(int what, int one, int other) {
        if (what == -1) { logs.clear(); return 0; }
        if (what < 0 || what > 2 || logs.size() == 10 || !isPaper(one)) return -2;
        if (what < 2 && !isPaper(other) || what == 0 && one == other) return -2;
        if (what == 2 && (other < 0 || other > 99)) return -2;
        logs.add(new int[] {what, one, other});
        return logs.size();
    }
    List<List<Integer>> pastRows() {
        List<List<Integer>> all = new ArrayList<>(), good = new ArrayList<>();
        rows(everyPaper(), new ArrayList<>(), all);
        next:
        for (List<Integer> row : all) {
            if (row.size() != s.papers.size()) continue;
            for (int[] l : logs) {
                int at = row.indexOf(l[1]), ahead = 0;
                for (int k : row.subList(0, at)) ahead += s.papers.get(k).strokes;
                boolean so = l[0] == 0 ? at < row.indexOf(l[2]) : l[0] == 1 ? at == l[2] : ahead == l[2];
                if (!so) continue next;
            }
            good.add(row);
        }
        good.sort(Model::comparePlaces);
        return good;
    }
    int orders(int what) {
        if (!s.told || what < 0 || what > 12) return -3;
        List<List<Integer>> good = pastRows();
        if (what == 0) return good.size();
        int k = (what - 1) % 6;
        if (good.isEmpty() || k >= s.papers.size()) return -2;
        if (what <= 6) return good.get(0).get(k);
        int b = 0;
        for (List<Integer> row : good) b |= 1 << row.get(k);
        return b;
    }
    int look(int what) {
        if (!s.told || what < 0 || what > 1) return -1;
        List<List<Integer>> good = pastRows();
        if (good.isEmpty() || s.papers.isEmpty()) return -2;
        int best = -1, fewest = 1000;
        for (int k = 0; k < s.papers.size(); k++) {
            Map<Integer, Integer> alike = new TreeMap<>();
            for (List<Integer> row : good) alike.merge(row.get(k), 1, Integer::sum);
            int most = Collections.max(alike.values());
            if (most < fewest) { fewest = most; best = k; }
        }
        return what == 0 ? best : fewest;
    }
    int seed(int to) {
        if (to < 0) return -1;
        int was = (int) x;
        x = to;
        return was;
    }
    int days(int m, int what) {
        if (!s.told || m < 1 || m > 20 || what < 0 || what > 1) return -1;
        long y = x;
        int sum = 0;
        for (int d = 0; d < m; d++) {
            State n = s.copy();
            while (!n.open().isEmpty()) {
                y = BigInteger.valueOf(y).multiply(BigInteger.valueOf(1103515245)).add(BigInteger.valueOf(12345))
                    .mod(BigInteger.ONE.shiftLeft(31)).longValue();
                List<Integer> open = n.open();
                if (n.sign(open.get((int) (y / 65536 % open.size())), true) < 0) break;
            }
            sum += what == 0 ? n.worth() : n.minute;
        }
        return sum;
    }
    int count(int what) {
        int signed = 0;
        for (int k = 0; k < s.papers.size(); k++) if (s.papers.get(k).signed()) signed |= 1 << k;
        int[] all = {s.ink, s.nib, s.fill, s.seats.size(), s.aways.size(), s.papers.size(), rules.size(), s.minute,
            s.at, s.hasInk, s.hasNib, signed, s.worth(), logs.size(), acts.size(), (int) x, tape.size()};
        return what < 0 || what > 16 ? -1 : all[what];
    }
    int image(int k) {
        if (k < 0 || k > 3) return -1;
        images.put(k, new Object[] {s.copy(), new ArrayList<>(logs), x});
        return s.minute;
    }
    @SuppressWarnings("unchecked")
    int back(int k) {
        if (!images.containsKey(k)) return -1;
        Object[] i = images.get(k);
        s = ((State) i[0]).copy();
        logs = new ArrayList<>((List<int[]>) i[1]);
        x = (long) i[2];
        acts.clear();
        return s.minute;
    }
}
