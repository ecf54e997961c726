import java.util.Random;

/** Drawn runs of calls, each answered by OnePen and by the plain Model alike. */
public final class ModelTests {
    private static int wrong = 0;
    private static int passed = 0;
    private static final int[] ASKED = new int[30];
    private static final StringBuilder TRACE = new StringBuilder();

    public static void main(String[] args) {
        int runs = args.length > 0 ? Integer.parseInt(args[0]) : 150;
        long seed = args.length > 1 ? Long.parseLong(args[1]) : 1;
        for (int run = 0; run < runs; run++) {
            Random draw = new Random(seed * 1000003 + run);
            TRACE.setLength(0);
            if (oneRun(draw, run)) {
                passed++;
            } else {
                wrong++;
            }
        }
        for (int k = 0; k < ASKED.length; k++) {
            if (ASKED[k] == 0 && runs >= 100) {
                System.out.println("call " + k + " was never drawn");
                wrong++;
            }
        }
        System.out.println(passed + " passed, " + wrong + " failed");
        if (wrong != 0) System.exit(1);
    }

    private static boolean oneRun(Random draw, int run) {
        OnePen x = new OnePen();
        Model m = new Model();
        wrongAt = -1;
        int calls = 0;
        boolean far = draw.nextInt(5) == 0;
        boolean early = draw.nextInt(10) == 0;
        while (calls < 360 && wrongAt < 0) {
            int kind = draw.nextInt(calls < 60 ? 6 : 60);
            if (!early && calls == 0 || kind == 0) {
                calls += tell(draw, x, m, officeText(draw), true, run);
                if (far && m.s.told && m.s.minute < 100) calls += goFar(draw, x, m, run);
            } else if (kind < 3) {
                calls += tell(draw, x, m, ruleText(draw), false, run);
            } else if (kind == 8) {
                calls += tellLogs(draw, x, m, run);
            } else if (kind == 7) {
                calls += survey(draw, x, m, run);
            } else {
                drawnCall(draw, x, m, run);
                calls++;
            }
        }
        return wrongAt < 0;
    }

    private static int goFar(Random draw, OnePen x, Model m, int run) {
        int calls = 0;
        int aim = 9890 + draw.nextInt(112);
        while (m.s.minute < aim && wrongAt < 0 && calls < 110) {
            same(x, m, run, 9, new int[] {Math.min(100, aim - m.s.minute), 0, 0, 0, 0});
            calls++;
        }
        return calls;
    }

    /** Other logs in place of those there are, now and then an image of them, and what they tell. */
    private static int tellLogs(Random draw, OnePen x, Model m, int run) {
        same(x, m, run, 21, new int[] {-1, 0, 0, 0, 0});
        for (int k = 0; k < 3; k++) {
            int what = draw.nextInt(3);
            int other = what == 2 ? draw.nextInt(30) : draw.nextInt(4);
            same(x, m, run, 21, new int[] {what, draw.nextInt(5), other, 0, 0});
        }
        same(x, m, run, draw.nextBoolean() ? 28 : 29, new int[] {draw.nextInt(2), 0, 0, 0, 0});
        for (int k = 0; k < 13; k++) same(x, m, run, 23, new int[] {k, 0, 0, 0, 0});
        return 18;
    }

    /** All questions of one kind or of all, of the state as it is. */
    private static int survey(Random draw, OnePen x, Model m, int run) {
        int[][] asks = {{13, 6, 3}, {14, 7, 9}, {15, 4, 6}, {16, 9, 1}, {17, 1, 1}, {18, 2, 1}, {19, 4, 1}, {20, 2, 1},
            {22, 1, 1}, {23, 13, 1}, {24, 2, 1}, {4, 6, 9}, {5, 4, 4}, {7, 17, 1}, {26, 4, 2}};
        int calls = 0;
        for (int[] ask : asks) {
            if (draw.nextInt(3) > 0) continue;
            for (int a = 0; a < ask[1]; a++) {
                for (int b = 0; b < ask[2] && wrongAt < 0; b++) {
                    if (ask[0] == 14 && draw.nextInt(2) > 0) continue;
                    same(x, m, run, ask[0], new int[] {a, b, 0, 0, 0});
                    calls++;
                }
            }
        }
        return calls;
    }

    private static void drawnCall(Random draw, OnePen x, Model m, int run) {
        int a = small(draw), b = small(draw), c = small(draw);
        int call = 2 + draw.nextInt(28);
        if (call < 4 && draw.nextInt(4) > 0) call = 6;
        if (call == 6 && draw.nextInt(3) > 0) a = draw.nextInt(6);
        if (call == 9) a = draw.nextInt(3) == 0 ? draw.nextInt(104) - 2 : draw.nextInt(12);
        if (call == 21) b = draw.nextInt(8) - 1;
        if (call == 21 && draw.nextInt(4) > 0) {
            a = draw.nextInt(25) == 0 ? -1 : draw.nextInt(4);
            if (a == 2) c = draw.nextInt(40);
        }
        if (call == 25) a = draw.nextBoolean() ? draw.nextInt() : draw.nextInt(100);
        if (call == 26) a = draw.nextInt(24) - 1;
        if (call == 26 || call == 4) b = draw.nextInt(call == 4 ? 11 : 4) - 1;
        if (call == 27) a = draw.nextInt(20) - 1;
        if (call == 28 || call == 29) a = draw.nextInt(6) - 1;
        if (call == 29 && draw.nextInt(3) > 0) call = 7;
        same(x, m, run, call, new int[] {a, b, c, 0, 0});
    }

    private static int wrongAt = -1;

    private static int small(Random draw) {
        int k = draw.nextInt(30);
        return k == 0 ? draw.nextInt() : k < 3 ? draw.nextInt(14) - 2 : draw.nextInt(7);
    }

    private static int tell(Random draw, OnePen x, Model m, String text, boolean office, int run) {
        String t = draw.nextInt(6) == 0 ? spoilt(draw, text) : text;
        if (t.length() > 400) t = t.substring(0, 400);
        TRACE.append("text ").append(t).append('\n');
        int calls = 2;
        same(x, m, run, 1, new int[] {0, 0, 0, 0, 0});
        for (int at = 0; at < t.length(); at += 20) {
            int[] n = new int[5];
            for (int k = 0; k < 20; k++) {
                int v = at + k < t.length() ? t.charAt(at + k) & 255 : 0;
                n[k / 4] |= v << 24 - 8 * (k % 4);
            }
            same(x, m, run, 0, n);
            calls++;
        }
        same(x, m, run, 1, new int[] {t.length(), 0, 0, 0, 0});
        same(x, m, run, office ? 2 : 3, new int[5]);
        return calls + 1;
    }

    private static String spoilt(Random draw, String text) {
        StringBuilder b = new StringBuilder(text);
        String signs = "0123456789 ;[]<>=+-*/%abnotif\0\u00ff";
        for (int n = 1 + draw.nextInt(3); n > 0; n--) {
            int at = draw.nextInt(b.length() + 1);
            int how = draw.nextInt(4);
            if (how == 0) b.insert(at, signs.charAt(draw.nextInt(signs.length())));
            else if (how == 1 && at < b.length()) b.deleteCharAt(at);
            else if (how == 2 && at < b.length()) b.setCharAt(at, signs.charAt(draw.nextInt(signs.length())));
            else if (how == 3 && draw.nextInt(4) == 0) b.setLength(at);
        }
        return b.toString();
    }

    private static String officeText(Random draw) {
        StringBuilder b = new StringBuilder();
        b.append("office ").append(1 + draw.nextInt(draw.nextBoolean() ? 99 : 12)).append(' ')
            .append(1 + draw.nextInt(draw.nextBoolean() ? 200 : 20)).append(' ').append(draw.nextInt(draw.nextBoolean() ? 21 : 3));
        int clerks = draw.nextInt(20) == 0 ? 0 : 1 + draw.nextInt(4);
        for (int k = 0; k < clerks; k++) b.append(";clerk ").append(draw.nextInt(draw.nextBoolean() ? 21 : 4));
        int papers = clerks == 0 ? 0 : draw.nextInt(3) > 0 ? 4 + draw.nextInt(3) : draw.nextInt(5);
        int aways = clerks == 0 ? 0 : draw.nextInt(7);
        for (int k = 0; k < aways; k++) {
            int f = draw.nextInt(draw.nextInt(5) == 0 ? 280 : 60);
            b.append(";away ").append(draw.nextInt(clerks)).append(' ').append(f).append(' ').append(f + draw.nextInt(20));
        }
        boolean tight = draw.nextBoolean();
        for (int k = 0; k < papers; k++) {
            b.append(";paper ").append(draw.nextInt(clerks)).append(' ').append(1 + draw.nextInt(draw.nextBoolean() ? 20 : 6))
                .append(' ').append(draw.nextInt(tight ? 50 : 300)).append(' ').append(1 + draw.nextInt(draw.nextBoolean() ? 30 : 3));
        }
        int rests = papers < 2 ? 0 : draw.nextInt(draw.nextInt(4) == 0 ? 14 : 4);
        for (int k = 0; k < rests; k++) {
            int a = draw.nextInt(papers);
            b.append(";rests ").append(a).append(' ').append((a + 1 + draw.nextInt(papers - 1)) % papers);
        }
        if (draw.nextInt(30) == 0) b.append(";clerk 1;clerk 2;clerk 3;clerk 4;clerk 5");
        if (draw.nextInt(30) == 0 && papers > 1) for (int k = 0; k < 40; k++) b.append(";rests1 0");
        return b.toString();
    }

    private static String ruleText(Random draw) {
        StringBuilder b = new StringBuilder();
        int clauses = draw.nextInt(25) == 0 ? 13 : 1 + draw.nextInt(3);
        int size = draw.nextInt(8) == 0 ? 12 : 3;
        for (int k = 0; k < clauses; k++) {
            b.append(k > 0 ? ";" : "").append(draw.nextInt(5) == 0 ? "  sign " : "sign ");
            sum(draw, b, clauses == 13 ? 1 : size);
            if (draw.nextInt(3) > 0) { b.append(" if "); test(draw, b, 0, clauses == 13 ? 1 : size, draw.nextInt(12) == 0 ? 12 : 2); }
        }
        return b.toString();
    }

    private static void sum(Random draw, StringBuilder b, int size) {
        int n = 1 + draw.nextInt(size);
        for (int k = 0; k < n; k++) {
            if (k > 0) b.append(" +-*/%".charAt(1 + draw.nextInt(5)));
            if (draw.nextInt(3) == 0) b.append(draw.nextInt(draw.nextInt(4) == 0 ? 100000 : 20));
            else b.append(Model.WORDS.get(draw.nextInt(13)));
        }
    }

    private static void test(Random draw, StringBuilder b, int depth, int size, int most) {
        int n = 1 + draw.nextInt(size);
        for (int k = 0; k < n; k++) {
            if (k > 0) b.append(draw.nextBoolean() ? " and " : " or ");
            fact(draw, b, depth, size, most);
        }
    }

    private static void fact(Random draw, StringBuilder b, int depth, int size, int most) {
        int how = depth >= most ? 9 : draw.nextInt(most > 2 ? 3 : 6);
        if (how == 0) { b.append("not "); fact(draw, b, depth + 1, size, most); }
        else if (how == 1) { b.append("["); test(draw, b, depth + 1, most > 2 ? 1 : size, most); b.append("]"); }
        else {
            sum(draw, b, most > 2 ? 1 : 2);
            b.append(new String[] {"<", "<=", "=", ">=", ">"}[draw.nextInt(5)]);
            sum(draw, b, most > 2 ? 1 : 2);
        }
    }

    private static boolean same(OnePen x, Model m, int run, int call, int[] n) {
        int got = ask(x, call, n);
        int want = askModel(m, call, n);
        ASKED[call]++;
        TRACE.append(call).append(' ').append(java.util.Arrays.toString(n)).append(" = ").append(got).append('\n');
        if (got != want) {
            System.out.println("run " + run + ": call " + call + " " + java.util.Arrays.toString(n) + " answered " + got + ", the model " + want);
            System.out.println(TRACE);
            wrongAt = run;
            return false;
        }
        return true;
    }

    static int ask(OnePen x, int call, int[] n) {
        switch (call) {
            case 0: return x.feed(n[0], n[1], n[2], n[3], n[4]);
            case 1: return x.end(n[0]);
            case 2: return x.office();
            case 3: return x.rule();
            case 4: return x.paper(n[0], n[1]);
            case 5: return x.clerk(n[0], n[1]);
            case 6: return x.sign(n[0]);
            case 7: return x.count(n[0]);
            case 8: return x.blank(n[0]);
            case 9: return x.await(n[0]);
            case 10: return x.filling();
            case 11: return x.change();
            case 12: return x.undo();
            case 13: return x.when(n[0], n[1]);
            case 14: return x.by(n[0], n[1]);
            case 15: return x.waits(n[0], n[1]);
            case 16: return x.plan(n[0]);
            case 17: return x.rings();
            case 18: return x.blanks(n[0]);
            case 19: return x.second(n[0]);
            case 20: return x.keep(n[0]);
            case 21: return x.log(n[0], n[1], n[2]);
            case 22: return x.late();
            case 23: return x.orders(n[0]);
            case 24: return x.look(n[0]);
            case 25: return x.seed(n[0]);
            case 26: return x.days(n[0], n[1]);
            case 27: return x.count(n[0]);
            case 28: return x.image(n[0]);
            default: return x.back(n[0]);
        }
    }

    static int askModel(Model x, int call, int[] n) {
        switch (call) {
            case 0: return x.feed(n[0], n[1], n[2], n[3], n[4]);
            case 1: return x.end(n[0]);
            case 2: return x.office();
            case 3: return x.rule();
            case 4: return x.paper(n[0], n[1]);
            case 5: return x.clerk(n[0], n[1]);
            case 6: return x.sign(n[0]);
            case 7: return x.count(n[0]);
            case 8: return x.blank(n[0]);
            case 9: return x.await(n[0]);
            case 10: return x.filling();
            case 11: return x.change();
            case 12: return x.undo();
            case 13: return x.when(n[0], n[1]);
            case 14: return x.by(n[0], n[1]);
            case 15: return x.waits(n[0], n[1]);
            case 16: return x.plan(n[0]);
            case 17: return x.rings();
            case 18: return x.blanks(n[0]);
            case 19: return x.second(n[0]);
            case 20: return x.keep(n[0]);
            case 21: return x.log(n[0], n[1], n[2]);
            case 22: return x.late();
            case 23: return x.orders(n[0]);
            case 24: return x.look(n[0]);
            case 25: return x.seed(n[0]);
            case 26: return x.days(n[0], n[1]);
            case 27: return x.count(n[0]);
            case 28: return x.image(n[0]);
            default: return x.back(n[0]);
        }
    }
}
