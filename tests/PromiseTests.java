/** For each promise of ../shared/DOC.md what it says, worked out by hand. */
public final class PromiseTests {
    private static int passed = 0;
    private static int failed = 0;
    private static boolean good = true;
    private static int promise = 0;

    /** Three papers, two of them of clerk 0, paper 2 rests on paper 1. */
    private static final String PLAIN =
        "office 10 12 2;clerk 0;clerk 3;paper 0 4 6 5;paper 1 5 20 7;paper 0 3 9 4;rests 2 1;away 1 8 9";
    /** 0 and 1 rest on each other, 2 rests on 0. */
    private static final String RING =
        "office 9 9 0;clerk 0;paper 0 1 9 1;paper 0 1 9 2;paper 0 1 9 3;rests 0 1;rests 1 0;rests 2 0";
    /** Two clerks far from each other, each with a paper due at once. */
    private static final String FAR = "office 99 200 0;clerk 0;clerk 20;paper 0 5 5 10;paper 1 5 5 7";
    private static final String PAIR = "office 99 200 0;clerk 0;paper 0 2 2 5;paper 0 3 3 7";
    private static final String BIG = "office 99 200 20;clerk 0;paper 0 10 0 1;paper 0 9 0 2";

    private static void due(String call, long got, long want) {
        if (got != want) {
            good = false;
            System.out.println("promise " + promise + ": " + call + " answered " + got + ", due is " + want);
        }
    }

    private static void begin(int number) {
        finish();
        promise = number;
        good = true;
    }

    private static void finish() {
        if (promise > 0) {
            if (good) {
                passed++;
            } else {
                failed++;
            }
        }
    }

    /** Feeds the text behind what is on the tape. */
    static void tell(OnePen x, String text) {
        int had = x.count(16);
        for (int at = 0; at < text.length(); at += 20) {
            int[] n = new int[5];
            for (int k = 0; k < 20; k++) {
                int b = at + k < text.length() ? text.charAt(at + k) & 255 : 0;
                n[k / 4] = n[k / 4] << 8 | b;
            }
            x.feed(n[0], n[1], n[2], n[3], n[4]);
        }
        x.end(had + text.length());
    }

    private static OnePen told(String office) {
        OnePen x = new OnePen();
        tell(x, office);
        int papers = x.office();
        if (papers < 0) due("office of " + office, papers, 0);
        return x;
    }

    private static int rule(OnePen x, String text) {
        tell(x, text);
        return x.rule();
    }

    private static String times(int n, String text) {
        return text.repeat(n);
    }

    private static void pass(OnePen x, int minutes) {
        for (int left = minutes; left > 0; left -= 100) x.await(Math.min(left, 100));
    }

    public static void main(String[] args) {
        newObject();
        feed();
        end();
        office();
        officeFaults();
        rules();
        ruleFaults();
        papers();
        clerks();
        signs();
        blank();
        await();
        fillings();
        changes();
        undo();
        when();
        by();
        byWords();
        bySums();
        waits();
        plan();
        rings();
        blanks();
        second();
        keep();
        late();
        logs();
        orders();
        look();
        seed();
        days();
        count();
        images();
        back();
        finish();
        System.out.println(passed + " passed, " + failed + " failed");
        if (failed != 0) System.exit(1);
    }

    private static void newObject() {
        begin(1);
        OnePen x = new OnePen();
        for (int k = 0; k <= 16; k++) due("count(" + k + ")", x.count(k), k == 8 ? -1 : 0);
        due("NONE", OnePen.NONE, -1);
        due("paper(0, 0)", x.paper(0, 0), -2);
        due("clerk(0, 0)", x.clerk(0, 0), -1);
        due("by(0, 0)", x.by(0, 0), -3);
        due("undo()", x.undo(), -1);
    }

    private static void feed() {
        begin(2);
        OnePen x = new OnePen();
        for (int k = 1; k <= 20; k++) due("feed " + k, x.feed(-1, 0, 7, 8, 9), 20 * k);
        due("feed at 400", x.feed(1, 2, 3, 4, 5), -1);
        due("count(16)", x.count(16), 400);
        x.end(381);
        due("feed at 381", x.feed(1, 2, 3, 4, 5), -1);
        due("count(16)", x.count(16), 381);
        x.end(380);
        due("feed at 380", x.feed(1, 2, 3, 4, 5), 400);
        OnePen y = new OnePen();
        // "sign" " 123" "45 i" "f 1=" "1   "
        due("feed", y.feed(0x7369676e, 0x20313233, 0x34352069, 0x6620313d, 0x31202020), 20);
        due("rule() of twenty bytes", y.rule(), 0);
        // a byte above 127 stays what it is
        y.feed(0xff000000, 0, 0, 0, 0);
        due("rule() of byte 255", y.rule(), -3);
    }

    private static void end() {
        begin(3);
        OnePen x = new OnePen();
        due("end(0)", x.end(0), 0);
        due("end(1)", x.end(1), -1);
        due("end(-1)", x.end(-1), -1);
        x.feed(0x7369676e, 0x20372b2b, 0, 0, 0);
        due("end(21)", x.end(21), -1);
        due("end(20)", x.end(20), 20);
        due("end(-5)", x.end(-5), -1);
        due("end(6)", x.end(6), 6);
        due("end(7)", x.end(7), -1);
        due("count(16)", x.count(16), 6);
        due("rule()", x.rule(), 0);
    }

    private static void office() {
        begin(4);
        OnePen x = new OnePen();
        tell(x, PLAIN);
        due("office()", x.office(), 3);
        due("count(16)", x.count(16), 0);
        due("count(0)", x.count(0), 10);
        due("count(9)", x.count(9), 10);
        due("count(10)", x.count(10), 12);
        x.sign(0);
        x.log(0, 1, 2);
        x.seed(77);
        x.image(2);
        rule(x, "sign 1");
        tell(x, "office 1 1 0;");
        due("office() with a fault", x.office(), -2 - (1 + 8 * 13));
        due("the tape is empty then", x.count(16), 0);
        due("the minute stays", x.count(7), 4);
        due("logs stay", x.count(13), 1);
        due("acts stay", x.count(14), 1);
        tell(x, "  office1 2 3 ; clerk 7;clerk 20 ");
        due("office() of no papers", x.office(), 0);
        due("minute", x.count(7), 0);
        due("clerks", x.count(3), 2);
        due("papers", x.count(5), 0);
        due("aways", x.count(4), 0);
        due("logs", x.count(13), 0);
        due("acts", x.count(14), 0);
        due("undo()", x.undo(), -1);
        due("x stays", x.count(15), 77);
        due("rules stay", x.count(6), 1);
        due("images stay", x.back(2), 4);
        due("count(5)", x.count(5), 3);
        OnePen y = told("office 99 200 20;clerk 0;clerk 20;clerk 1;clerk 2;away 3 0 299;paper 3 20 299 30;paper 0 1 0 1;"
            + "rests 0 1;rests 0 1");
        due("told twice", y.paper(0, 8), 2);
        due("the greatest", y.paper(0, 3), 30);
    }

    private static void fault(String text, int place, int code) {
        OnePen x = new OnePen();
        tell(x, text);
        due("office() of '" + text + "'", x.office(), -2 - (1 + 8 * place + code));
        due("count(16)", x.count(16), 0);
        due("count(0)", x.count(0), 0);
        due("plan(0): no office", x.plan(0), -3);
    }

    private static void officeFaults() {
        begin(4);
        String pen = "office 1 1 0";
        String clerk = pen + ";clerk 0";
        String paper = clerk + ";paper 0 1 0 1";
        fault("", 0, 0);
        fault("   ", 3, 0);
        fault("offices 1 1 0", 0, 0);
        fault("Office 1 1 0", 0, 0);
        fault("office", 6, 0);
        fault("office,1 1 0", 6, 0);
        fault("office\t1 1 0", 6, 0);
        fault("office 0 1 0", 7, 1);
        fault("office 100 1 0", 7, 1);
        fault("office 1 0 0", 9, 1);
        fault("office 1 201 0", 9, 1);
        fault("office 1 1 21", 11, 1);
        fault("office 000001 1 0", 7, 1);
        fault("office 99999999999999999999 1 0", 7, 1);
        fault("office 1 1", 10, 0);
        fault("office 1 1  ", 12, 0);
        fault("office 1 1 x", 11, 0);
        fault(pen + " 0", 13, 0);
        fault(pen + ";", 13, 0);
        fault(pen + ";xyz", 13, 0);
        fault(pen + ";;", 13, 0);
        fault(pen + ";sign 1", 13, 0);
        fault(pen + (char) 255, 12, 0);
        fault("clerk 0", 0, 4);
        fault("rests 7 7", 0, 4);
        fault("xyz", 0, 0);
        fault(pen + ";" + pen, 13, 4);
        fault(pen + ";office", 13, 4);
        fault(pen + ";clerk 21", 19, 1);
        fault(pen + ";away 0 0 0", 18, 1);
        fault(clerk + ";away 1 0 0", 26, 1);
        fault(clerk + ";away 0 300 300", 28, 1);
        fault(clerk + ";away 0 5 4", 30, 1);
        fault(clerk + ";away 0 5 300", 30, 1);
        fault(pen + ";paper 0 1 0 1", 19, 1);
        fault(clerk + ";paper 0 21 0 1", 29, 1);
        fault(clerk + ";paper 0 0 0 1", 29, 1);
        fault(clerk + ";paper 0 1 300 1", 31, 1);
        fault(clerk + ";paper 0 1 0 31", 33, 1);
        fault(clerk + ";paper 0 1 0 0", 33, 1);
        fault(clerk + ";paper 0 1 0", 32, 0);
        fault(pen + ";rests 0 1", 19, 1);
        fault(paper + ";rests 0 0", 43, 1);
        fault(paper + ";rests 0 1", 43, 1);
        fault(paper + ";rests 1 0", 41, 1);
        fault(pen + times(5, ";clerk 0"), 45, 4);
        fault(clerk + times(7, ";away 0 0 0"), 87, 4);
        fault(clerk + times(7, ";paper 0 1 0 1"), 105, 4);
        fault(clerk + times(6, ";paper 0 1 0 1") + ";paper", 105, 4);
        String two = "office1 1 0;clerk0;paper0 1 0 1;paper0 1 0 1";
        due("forty clauses", told(two + times(36, ";rests1 0")).count(5), 2);
        fault(two + times(37, ";rests1 0"), 369, 4);
        fault(two + times(36, ";rests1 0") + ";office", 369, 4);
        fault(two + times(36, ";rests1 0") + ";xyz", 369, 0);
        fault(two + times(36, ";rests1 0") + ";", 369, 0);
        due("the last minute", told(clerk + ";away 0 299 299").count(4), 1);
        due("five digits", told("office 00001 00001 00000").count(0), 1);
        due("all of each", told(pen + times(4, ";clerk 0") + times(6, ";away 0 0 0") + times(6, ";paper 0 1 0 1")).count(4), 6);
    }

    private static void rules() {
        begin(5);
        OnePen x = new OnePen();
        for (int k = 0; k < 6; k++) {
            due("rule() " + k, rule(x, "sign " + k), k);
            due("count(16)", x.count(16), 0);
            due("rule() with a fault", k == 5 ? -3 : rule(x, "xyz"), -3);
            due("count(16)", x.count(16), 0);
        }
        due("count(6)", x.count(6), 6);
        tell(x, "sign 1");
        due("rule() of a seventh", x.rule(), -1);
        due("the tape stays", x.count(16), 6);
        tell(x, ";");
        due("rule() of a seventh with a fault", x.rule(), -1);
        due("count(16)", x.count(16), 7);
    }

    private static void ruleFault(String text, int place, int code) {
        OnePen x = new OnePen();
        tell(x, text);
        due("rule() of '" + text + "'", x.rule(), -2 - (1 + 8 * place + code));
        due("count(6)", x.count(6), 0);
        due("count(16)", x.count(16), 0);
    }

    private static void ruleGood(String text) {
        due("rule() of '" + text + "'", rule(new OnePen(), text), 0);
    }

    private static void ruleFaults() {
        begin(5);
        ruleFault("", 0, 0);
        ruleFault("sign", 4, 0);
        ruleFault("signs 1", 0, 0);
        ruleFault("office 1 1 0", 0, 0);
        ruleFault("sign x", 5, 0);
        ruleFault("sign if", 5, 0);
        ruleFault("sign not", 5, 0);
        ruleFault("sign office", 5, 0);
        ruleFault("sign away", 5, 0);
        ruleFault("sign -1", 5, 0);
        ruleFault("sign (1)", 5, 0);
        ruleFault("sign 1;", 7, 0);
        ruleFault("sign 1 2", 7, 0);
        ruleFault("sign 1 or", 7, 0);
        ruleFault("sign papers", 5, 0);
        ruleFault("sign 5 %", 8, 0);
        ruleFault("sign 1 if", 9, 0);
        ruleFault("sign 1 if ", 10, 0);
        ruleFault("sign 1 if 1", 11, 0);
        ruleFault("sign 1 if 1 < = 2", 14, 0);
        ruleFault("sign 1 if 1 =< 2", 13, 0);
        ruleFault("sign 1 if 1 < 2 < 3", 16, 0);
        ruleFault("sign 1 if left = 1]", 18, 0);
        ruleFault("sign 1 if [1=1", 14, 0);
        ruleFault("sign 1 if []", 11, 0);
        ruleFault("sign 1 if [1]", 12, 0);
        ruleFault("sign 1 if 1=1 and", 17, 0);
        ruleFault("sign 1 if 1=1 if 1=1", 14, 0);
        ruleFault("sign 1 iff 1=1", 7, 0);
        ruleFault("sign 100000", 5, 1);
        ruleFault("sign 000001 x", 5, 1);
        ruleFault("sign 1 if 100000 x", 10, 1);
        ruleGood("sign 99999");
        ruleGood("sign1if1=1");
        ruleGood(" sign  1  if  1 <= 1 or 1>=1 and not[1<1] ; sign paper%clerk ");
        ruleGood("sign 1 if " + times(10, "[") + "1=1" + times(10, "]"));
        ruleFault("sign 1 if " + times(11, "[") + "1=1" + times(11, "]"), 20, 2);
        ruleGood("sign 1 if " + times(10, "not ") + "1=1");
        ruleFault("sign 1 if " + times(11, "not ") + "1=1", 50, 2);
        ruleGood("sign 1 if " + times(5, "[not ") + "1=1" + times(5, "]"));
        ruleFault("sign 1 if " + times(5, "[not ") + "[", 35, 2);
        ruleFault("sign 1 if " + times(5, "not[") + "not", 30, 2);
        ruleGood("sign 1 if not 1=1" + times(12, " and not 1=1"));
        ruleGood("sign 1" + times(59, "+1"));
        ruleFault("sign 1" + times(60, "+1"), 125, 3);
        ruleFault("sign 1" + times(59, "+1") + "+worth", 125, 3);
        ruleFault("sign 1" + times(59, "+1") + "+100000", 125, 1);
        ruleFault("sign 1" + times(59, "+1") + "+x", 125, 0);
        ruleGood("sign 1" + times(56, "+1") + " if 1=1");
        ruleFault("sign 1" + times(57, "+1") + " if 1=1", 126, 3);
        ruleFault("sign 1" + times(58, "+1") + " if 1=1", 127, 3);
        ruleFault("sign 1" + times(58, "+1") + " if 1>=1", 127, 3);
        ruleFault("sign 1" + times(29, "+1") + ";sign 1" + times(30, "+1"), 130, 3);
        ruleGood("sign 1" + times(11, ";sign 1"));
        ruleFault("sign 1" + times(12, ";sign 1"), 84, 4);
        ruleFault("sign 1" + times(11, ";sign 1") + ";xign 1", 84, 0);
        ruleFault("sign 1" + times(11, ";sign 1") + ";", 84, 0);
    }

    private static void papers() {
        begin(6);
        OnePen x = told(PLAIN);
        int[][] want = {{0, 4, 6, 5, -1, 0, 0, 0, 0}, {1, 5, 20, 7, -1, 0, 0, 0, 0}, {0, 3, 9, 4, -1, 0, 0, 0, 2}};
        for (int p = 0; p < 3; p++) {
            for (int w = 0; w < 9; w++) due("paper(" + p + ", " + w + ")", x.paper(p, w), want[p][w]);
            due("paper(p, 9)", x.paper(p, 9), -2);
            due("paper(p, -1)", x.paper(p, -1), -2);
        }
        due("paper(3, 0)", x.paper(3, 0), -2);
        due("paper(-1, 0)", x.paper(-1, 0), -2);
        x.blank(1);
        due("BLANK", x.paper(1, 6), 1);
        x.sign(2);
        due("its minute", x.paper(2, 4), 3);
        due("VOID", x.paper(2, 5), 1);
        due("in time", x.paper(2, 7), 0);
        x.sign(0);
        due("its minute", x.paper(0, 4), 7);
        due("VOID", x.paper(0, 5), 0);
        due("late", x.paper(0, 7), 0);
        x.sign(1);
        due("BLANK still", x.paper(1, 6), 1);
        due("VOID for good", x.paper(2, 5), 1);
        OnePen y = told("office 9 9 0;clerk 0;paper 0 5 5 1;paper 0 1 5 1");
        y.sign(0);
        due("in time at the minute it is due", y.paper(0, 7), 1);
        y.sign(1);
        due("late by one", y.paper(1, 7), 0);
    }

    private static void clerks() {
        begin(7);
        OnePen x = told(PLAIN);
        due("clerk(1, 0)", x.clerk(1, 0), 3);
        due("clerk(0, 2)", x.clerk(0, 2), 5);
        due("clerk(1, 2)", x.clerk(1, 2), 2);
        due("clerk(0, 3)", x.clerk(0, 3), 5);
        x.sign(0);
        due("clerk(0, 2)", x.clerk(0, 2), 5);
        due("clerk(0, 3)", x.clerk(0, 3), 4);
        x.await(3);
        due("at 7", x.clerk(1, 1), 0);
        x.await(1);
        due("at 8", x.clerk(1, 1), 1);
        due("another", x.clerk(0, 1), 0);
        x.await(1);
        due("at 9", x.clerk(1, 1), 1);
        x.await(1);
        due("at 10", x.clerk(1, 1), 0);
        due("clerk(2, 0)", x.clerk(2, 0), -1);
        due("clerk(-1, 0)", x.clerk(-1, 0), -1);
        due("clerk(0, 4)", x.clerk(0, 4), -1);
        due("clerk(0, -1)", x.clerk(0, -1), -1);
    }

    private static void signs() {
        begin(8);
        OnePen x = told(PLAIN);
        due("sign(0)", x.sign(0), 4);
        due("ink", x.count(9), 6);
        due("nib", x.count(10), 8);
        // three minutes to the seat, then away at 8 and 9
        due("sign(1)", x.sign(1), 15);
        due("where", x.count(8), 1);
        due("sign(2)", x.sign(2), 23);
        due("ink", x.count(9), 7);
        due("nib", x.count(10), 0);
        due("VOID", x.paper(2, 5), 0);
        due("sign(2) again", x.sign(2), -1);
        due("sign(3)", x.sign(3), -1);
        due("sign(-1)", x.sign(-1), -1);
        due("acts", x.count(14), 3);
        // three fillings; the new nib is too short too
        OnePen y = told("office 4 6 1;clerk 0;paper 0 9 99 1;paper 0 5 99 1;paper 0 4 99 1;paper 0 1 99 1");
        due("sign(0)", y.sign(0), 15);
        due("VOID", y.paper(0, 5), 1);
        due("ink", y.count(9), 3);
        due("nib", y.count(10), 0);
        due("sign(1)", y.sign(1), 25);
        due("VOID", y.paper(1, 5), 0);
        due("ink", y.count(9), 3);
        due("nib", y.count(10), 1);
        // one filling, as many strokes as ink; the nib is changed
        due("sign(2)", y.sign(2), 33);
        due("ink", y.count(9), 0);
        due("nib", y.count(10), 2);
        due("sign(3)", y.sign(3), 35);
        OnePen z = told("office 99 200 0;clerk 0;away 0 5 9;away 0 2 3;away 0 12 14;paper 0 3 99 1;paper 0 2 99 1");
        due("sign(0) between hours away", z.sign(0), 18);
        z.undo();
        due("sign(1) ahead of them", z.sign(1), 2);
        OnePen far = told(BIG);
        pass(far, 9990);
        due("sign(0) behind 9999", far.sign(0), -1);
        due("nothing happens", far.count(9), 99);
        due("minute", far.count(7), 9990);
        due("sign(1) till 9999", far.sign(1), 9999);
        OnePen ring = told(RING);
        due("sign(0)", ring.sign(0), 1);
        due("VOID, 1 is not signed", ring.paper(0, 5), 1);
        ring.sign(1);
        due("VOID, 0 is VOID", ring.paper(1, 5), 1);
        due("no office", new OnePen().sign(0), -1);
    }

    private static void blank() {
        begin(9);
        OnePen x = told(RING);
        due("blank(0)", x.blank(0), 1);
        due("blank(0) again", x.blank(0), -1);
        due("blank(3)", x.blank(3), -1);
        due("blank(-1)", x.blank(-1), -1);
        due("minute", x.count(7), 0);
        due("acts", x.count(14), 1);
        x.sign(0);
        due("not VOID", x.paper(0, 5), 0);
        x.sign(1);
        due("nor what rests on it", x.paper(1, 5), 0);
        due("blank(1) signed", x.blank(1), -1);
        due("blank(2)", x.blank(2), 2);
        due("no office", new OnePen().blank(0), -1);
        OnePen y = told("office 9 2 0;clerk 0;paper 0 3 99 1");
        y.blank(0);
        due("sign(0)", y.sign(0), 6);
        due("its nib crosses all the same", y.paper(0, 5), 1);
    }

    private static void await() {
        begin(10);
        OnePen x = told(BIG);
        due("await(1)", x.await(1), 1);
        due("await(100)", x.await(100), 101);
        due("await(0)", x.await(0), -1);
        due("await(-1)", x.await(-1), -1);
        due("await(101)", x.await(101), -1);
        due("await(MAX)", x.await(Integer.MAX_VALUE), -1);
        pass(x, 9799);
        due("minute", x.count(7), 9900);
        due("await(100)", x.await(100), -1);
        due("await(99)", x.await(99), 9999);
        due("await(1)", x.await(1), -1);
        due("no office", new OnePen().await(1), -1);
        due("minute", new OnePen().count(7), 0);
    }

    private static void fillings() {
        begin(11);
        OnePen x = told(BIG);
        due("filling() full", x.filling(), -1);
        x.sign(0);
        due("filling()", x.filling(), 89);
        due("ink", x.count(9), 99);
        due("minute", x.count(7), 30);
        due("filling() again", x.filling(), -1);
        due("acts", x.count(14), 2);
        x.sign(1);
        pass(x, 9980 - 39);
        due("filling() behind 9999", x.filling(), -1);
        due("ink", x.count(9), 90);
        due("no office", new OnePen().filling(), -1);
        OnePen y = told("office 9 9 0;clerk 0;paper 0 9 9 1");
        y.sign(0);
        due("filling() of no minutes", y.filling(), 0);
        due("minute", y.count(7), 9);
        OnePen z = told(BIG);
        z.sign(1);
        pass(z, 9970);
        due("minute", z.count(7), 9979);
        due("filling()", z.filling(), 90);
        due("minute", z.count(7), 9999);
    }

    private static void changes() {
        begin(12);
        OnePen x = told(BIG);
        due("change() new", x.change(), -1);
        x.sign(0);
        due("change()", x.change(), 190);
        due("nib", x.count(10), 200);
        due("minute", x.count(7), 13);
        due("change() again", x.change(), -1);
        due("no office", new OnePen().change(), -1);
        x.sign(1);
        pass(x, 9997 - 22);
        due("minute", x.count(7), 9997);
        due("change() behind 9999", x.change(), -1);
        due("nib", x.count(10), 191);
        x.undo();
        pass(x, 9996 - x.count(7));
        due("change() till 9999", x.change(), 191);
        due("minute", x.count(7), 9999);
    }

    private static void undo() {
        begin(13);
        OnePen x = told(PLAIN);
        due("undo()", x.undo(), -1);
        for (int k = 0; k < 22; k++) x.await(1);
        due("acts", x.count(14), 20);
        for (int k = 19; k >= 0; k--) due("undo()", x.undo(), k);
        due("minute", x.count(7), 2);
        due("undo()", x.undo(), -1);
        OnePen y = told(PLAIN);
        y.blank(2);
        y.sign(0);
        y.log(0, 1, 2);
        y.seed(5);
        y.filling();
        y.change();
        due("minute", y.count(7), 9);
        due("undo() the change", y.undo(), 3);
        due("nib", y.count(10), 8);
        due("undo() the filling", y.undo(), 2);
        due("ink", y.count(9), 6);
        due("undo() the sign", y.undo(), 1);
        due("signed", y.count(11), 0);
        due("ink", y.count(9), 10);
        due("its minute", y.paper(0, 4), -1);
        due("blank", y.paper(2, 6), 1);
        due("undo() the blank", y.undo(), 0);
        due("blank", y.paper(2, 6), 0);
        due("logs stay", y.count(13), 1);
        due("x stays", y.count(15), 5);
        due("undo()", y.undo(), -1);
    }

    private static void when() {
        begin(14);
        OnePen x = told(PLAIN);
        due("when(1, 0)", x.when(1, 0), 8);
        due("when(1, 1)", x.when(1, 1), 0);
        due("when(1, 2)", x.when(1, 2), 1);
        due("when(2, 1)", x.when(2, 1), 1);
        due("when(2, 2)", x.when(2, 2), 0);
        x.await(3);
        due("when(0, 0)", x.when(0, 0), 7);
        due("when(0, 1)", x.when(0, 1), 0);
        due("when(0, 2)", x.when(0, 2), 0);
        due("minute", x.count(7), 3);
        due("acts", x.count(14), 1);
        x.sign(0);
        due("when(0, 0) signed", x.when(0, 0), -3);
        due("when(3, 0)", x.when(3, 0), -3);
        due("when(-1, 0)", x.when(-1, 0), -3);
        due("when(1, 3)", x.when(1, 3), -3);
        due("when(1, -1)", x.when(1, -1), -3);
        due("no office", new OnePen().when(0, 0), -3);
        OnePen far = told(BIG);
        pass(far, 9990);
        for (int what = 0; what < 3; what++) due("when(0, " + what + ")", far.when(0, what), -2);
        due("when(0, 3)", far.when(0, 3), -3);
        due("when(1, 0)", far.when(1, 0), 9999);
    }

    private static void by() {
        begin(15);
        OnePen x = told(PLAIN);
        rule(x, "sign worth - way if needs = 0");
        int[] want = {12, 23, 3, 0, 1, 2, -2, -2, -2};
        for (int k = 0; k < 9; k++) due("by(0, " + k + ")", x.by(0, k), want[k]);
        due("by(0, 9)", x.by(0, 9), -3);
        due("by(0, -1)", x.by(0, -1), -3);
        due("by(1, 0)", x.by(1, 0), -3);
        due("by(-1, 0)", x.by(-1, 0), -3);
        due("minute", x.count(7), 0);
        x.sign(0);
        int[] then = {12, 23, 2, 1, 2, -2, -2, -2, -2};
        for (int k = 0; k < 9; k++) due("by(0, " + k + ")", x.by(0, k), then[k]);
        OnePen none = new OnePen();
        rule(none, "sign 1");
        due("no office", none.by(0, 0), -3);
        // of several the first; a sum of 0 or below signs nothing
        OnePen y = told(PAIR);
        rule(y, "sign 3");
        rule(y, "sign 0");
        rule(y, "sign paper - 1");
        rule(y, "sign paper");
        due("by(0, 3)", y.by(0, 3), 0);
        due("by(0, 2)", y.by(0, 2), 2);
        due("by(1, 2)", y.by(1, 2), 0);
        due("by(2, 2)", y.by(2, 2), 0);
        due("by(3, 2)", y.by(3, 2), 1);
        due("by(3, 3)", y.by(3, 3), 1);
        OnePen ring = told(RING);
        rule(ring, "sign worth");
        due("VOID ones are signed too", ring.by(0, 2), 3);
        due("and worth nothing", ring.by(0, 0), 0);
        // what can't be signed is passed over
        OnePen far = told(BIG);
        rule(far, "sign strokes");
        pass(far, 9990);
        due("by(0, 3)", far.by(0, 3), 1);
        due("by(0, 1)", far.by(0, 1), 9999);
        due("by(0, 2)", far.by(0, 2), 1);
    }

    private static void byWords() {
        begin(15);
        // of paper 1, when paper 0 is signed
        String[] words = {"paper", "clerk", "strokes", "due", "worth", "way", "left", "needs", "bears", "ink", "nib",
            "minute", "begins"};
        int[] values = {1, 1, 5, 20, 7, 3, 16, 0, 1, 6, 8, 4, 10};
        for (int wrong = -1; wrong < words.length; wrong++) {
            OnePen x = told(PLAIN);
            x.sign(0);
            StringBuilder b = new StringBuilder("sign 1 if paper>0");
            for (int k = 0; k < words.length; k++) {
                b.append(" and ").append(words[k]).append('=').append(values[k] + (k == wrong ? 1 : 0));
            }
            due("rule()", rule(x, b.toString()), 0);
            due("words, wrong " + wrong, x.by(0, 2), wrong < 0 ? 1 : 0);
            due("words, wrong " + wrong, x.by(0, 3), wrong < 0 ? 1 : -2);
        }
        OnePen y = told(PLAIN);
        rule(y, "sign 1 if paper=2 and needs=1 and bears=0 and left=9-minute and begins=minute");
        due("of paper 2", y.by(0, 3), 2);
        y.await(4);
        due("of paper 2, later", y.by(0, 3), 2);
    }

    private static void sum(String text, int want) {
        OnePen x = told("office 9 9 0;clerk 0;paper 0 1 9 1");
        due("rule " + text, rule(x, "sign 1 if " + text), 0);
        due(text, x.by(0, 2), want);
    }

    private static void bySums() {
        begin(15);
        sum("2+3*4=14", 1);
        sum("20-3-2=15", 1);
        sum("7/2*2=6", 1);
        sum("0-7/2=0-3", 1);
        sum("left-minute=9", 1);
        sum("3-10/2*3+7%4=0-9", 1);
        sum("5/0=0", 1);
        sum("5%0=0", 1);
        sum("0-5<0", 1);
        sum("1<1", 0);
        sum("1<=1", 1);
        sum("1>=1", 1);
        sum("1>1", 0);
        sum("2>1", 1);
        sum("65536*65536*65536*32768<0", 1);
        sum("65536*65536*65536*65536=0", 1);
        sum("1=1 or 1=1 and 1=2", 1);
        sum("[1=1 or 1=1] and 1=2", 0);
        sum("1=2 and 1=1 or 1=1", 1);
        sum("not 1=2 and 1=2", 0);
        sum("not [1=2 and 1=2]", 1);
        sum("not not 1=1", 1);
        sum("1=2 or 1=2 or 1=1", 1);
        OnePen x = told("office 9 9 0;clerk 0;paper 0 1 9 1;paper 0 1 9 2");
        rule(x, "sign 0 if paper=1;sign 9");
        rule(x, "sign 1 if paper=7;sign 5 if paper=1;sign 6 if paper=1;sign 3 if paper = 0");
        rule(x, "sign (");
        due("the first clause that holds", x.by(0, 2), 1);
        due("the first clause that holds", x.by(1, 3), 1);
        due("the first clause that holds", x.by(1, 4), 0);
    }

    private static void waits() {
        begin(16);
        OnePen x = told(PLAIN);
        rule(x, "sign worth - way if needs = 0");
        rule(x, "sign 0");
        rule(x, "sign 1 if paper = 1");
        due("waits(0, 0)", x.waits(0, 0), 23 - 7);
        due("waits(1, 0)", x.waits(1, 0), 15 - 5);
        due("waits(0, 1)", x.waits(0, 1), 0);
        due("waits(0, 2)", x.waits(0, 2), 0);
        due("waits(1, 2)", x.waits(1, 2), 3);
        due("waits(2, 0)", x.waits(2, 0), -1);
        due("waits(-1, 0)", x.waits(-1, 0), -1);
        due("waits(0, 3)", x.waits(0, 3), -1);
        due("waits(0, -1)", x.waits(0, -1), -1);
        x.sign(0);
        due("waits(0, 0)", x.waits(0, 0), 23 - 4 - 3);
        OnePen none = new OnePen();
        rule(none, "sign 1");
        due("no office", none.waits(0, 0), -1);
    }

    private static void planIs(OnePen x, int... want) {
        for (int k = 0; k < 9; k++) due("plan(" + k + ")", x.plan(k), want[k]);
    }

    private static void plan() {
        begin(17);
        OnePen x = told(PLAIN);
        planIs(x, 12, 15, 0, 1, -2, -2, -2, -2, 4);
        due("plan(9)", x.plan(9), -3);
        due("plan(-1)", x.plan(-1), -3);
        due("no office", new OnePen().plan(0), -3);
        x.sign(0);
        planIs(x, 12, 15, 1, -2, -2, -2, -2, -2, 4);
        // what is signed and late counts nothing, what is left may still be in time
        OnePen y = told(PAIR);
        y.sign(1);
        planIs(y, 7, 3, -2, -2, -2, -2, -2, -2, 1);
        // nothing is in time: the row of none
        planIs(told("office 99 200 0;clerk 0;paper 0 1 0 5;paper 0 1 0 5"), 0, 0, -2, -2, -2, -2, -2, -2, 3);
        // of several the first
        planIs(told("office 99 200 0;clerk 0;paper 0 2 99 3;paper 0 2 99 3;paper 0 1 99 1"), 7, 5, 0, 1, 2, -2, -2, -2, 0);
        // of several the least minute: the way is shorter the other way round
        planIs(told("office 99 200 0;clerk 0;clerk 4;clerk 1;paper 1 1 99 1;paper 2 1 99 1"), 2, 6, 1, 0, -2, -2, -2, -2, 0);
        planIs(told(RING), 0, 0, -2, -2, -2, -2, -2, -2, 7);
        OnePen ring = told(RING);
        ring.blank(1);
        planIs(ring, 6, 3, 1, 0, 2, -2, -2, -2, 0);
        planIs(told("office 9 9 0"), 0, 0, -2, -2, -2, -2, -2, -2, 0);
        // six in a row
        planIs(told("office 99 200 0;clerk 0" + times(6, ";paper 0 1 9 1")), 6, 6, 0, 1, 2, 3, 4, 5, 0);
        // what rests waits for what it rests on
        planIs(told("office 99 200 0;clerk 0;paper 0 1 9 1;paper 0 1 9 1;rests 0 1"), 2, 2, 1, 0, -2, -2, -2, -2, 0);
    }

    private static void rings() {
        begin(18);
        OnePen x = told(RING);
        due("rings()", x.rings(), 3);
        x.blank(0);
        x.sign(0);
        due("rings() signed", x.rings(), 3);
        due("rings() of none", told(PLAIN).rings(), 0);
        due("no office", new OnePen().rings(), -1);
        due("no papers", told("office 1 1 0").rings(), 0);
        due("a long ring", told("office 9 9 0;clerk 0" + times(6, ";paper 0 1 9 1")
            + ";rests 0 5;rests 5 1;rests 1 4;rests 4 2;rests 2 3;rests 3 0").rings(), 63);
    }

    private static void blanks() {
        begin(19);
        OnePen x = told(RING);
        due("blanks(0)", x.blanks(0), 1);
        due("blanks(1)", x.blanks(1), 1);
        due("blanks(2)", x.blanks(2), -1);
        due("blanks(-1)", x.blanks(-1), -1);
        due("no office", new OnePen().blanks(0), -1);
        x.sign(1);
        due("blanks(0) signed", x.blanks(0), 0);
        x.undo();
        x.blank(1);
        due("blanks(0) blank", x.blanks(0), 0);
        due("blanks(1)", x.blanks(1), 0);
        String three = "office 9 9 0;clerk 0" + times(6, ";paper 0 1 9 1");
        OnePen y = told(three + ";rests 0 1;rests 1 2;rests 2 0;rests 2 1");
        due("of several the least", y.blanks(0), 2);
        OnePen z = told(three + ";rests 0 1;rests 1 0;rests 2 3;rests 3 2;rests 4 5;rests 5 4");
        due("three rings", z.blanks(0), 21);
        due("three rings", z.blanks(1), 3);
        OnePen w = told(three + ";rests 0 3;rests 3 0;rests 1 3;rests 3 1;rests 2 3;rests 3 2");
        due("one for three", w.blanks(0), 8);
    }

    private static void second() {
        begin(20);
        OnePen x = told(FAR);
        due("second(0)", x.second(0), 0);
        due("second(1)", x.second(1), 7);
        due("second(2)", x.second(2), -1000);
        due("second(-1)", x.second(-1), -1000);
        due("no office", new OnePen().second(0), -1000);
        x.sign(0);
        due("second(1) later", x.second(1), 0);
        due("what rests on papers of the other pen", told(FAR + ";rests 1 0").second(1), 7);
        due("what rests on papers of the other pen", told(FAR + ";rests 0 1").second(1), 17);
        OnePen own = told("office 99 200 0;clerk 0;clerk 20;paper 1 1 9 5;paper 1 1 9 6;rests 1 0");
        due("what rests on their own", own.second(1), 11);
        // the second pen is full and new, the first is not
        OnePen y = told("office 5 5 9;clerk 0;clerk 0;paper 0 5 9 1;paper 1 5 10 8");
        y.sign(0);
        due("plan(0)", y.plan(0), 1);
        due("second(1)", y.second(1), 8);
        due("second(0)", y.second(0), 0);
        due("no papers", told("office 9 9 0;clerk 0").second(0), 0);
    }

    private static void keep() {
        begin(21);
        OnePen x = told(FAR);
        due("keep(0)", x.keep(0), 0);
        due("keep(1)", x.keep(1), 10);
        due("keep(2)", x.keep(2), -1);
        due("keep(-1)", x.keep(-1), -1);
        due("no office", new OnePen().keep(0), -1);
        OnePen y = told("office 1 1 0");
        due("no clerk", y.keep(0), -2);
        due("no clerk", y.keep(1), -2);
        OnePen z = told("office 9 9 0;clerk 0;clerk 0;clerk 0;paper 2 1 9 4;paper 1 1 9 4");
        due("of several the least", z.keep(0), 1);
        due("of several the least", z.keep(1), 4);
        // what rests on theirs can't be in a row then
        OnePen w = told("office 9 9 0;clerk 0;clerk 0;paper 0 1 9 9;paper 1 1 9 1;rests 0 1");
        due("keep(0)", w.keep(0), 1);
        due("keep(1)", w.keep(1), 10);
    }

    private static void late() {
        begin(22);
        OnePen x = told(FAR);
        due("late()", x.late(), 7);
        x.sign(1);
        due("late()", x.late(), 10);
        x.sign(0);
        due("none is to be signed", x.late(), 0);
        due("no papers", told("office 1 1 0").late(), 0);
        due("no office", new OnePen().late(), -1);
        OnePen ring = told(RING);
        due("VOID ones", ring.late(), 6);
        ring.blank(0);
        due("late()", ring.late(), 0);
        OnePen far = told(BIG);
        pass(far, 9980);
        due("till 9999", far.late(), 3);
        far.await(1);
        due("no such row", far.late(), -2);
    }

    private static void logs() {
        begin(23);
        OnePen x = told(PLAIN);
        due("log(0, 1, 2)", x.log(0, 1, 2), 1);
        due("log(0, 1, 1)", x.log(0, 1, 1), -2);
        due("log(0, 3, 1)", x.log(0, 3, 1), -2);
        due("log(0, 1, 3)", x.log(0, 1, 3), -2);
        due("log(0, 1, -1)", x.log(0, 1, -1), -2);
        due("log(1, 0, 3)", x.log(1, 0, 3), -2);
        due("log(1, 0, -1)", x.log(1, 0, -1), -2);
        due("log(1, 2, 2)", x.log(1, 2, 2), 2);
        due("log(2, 0, 100)", x.log(2, 0, 100), -2);
        due("log(2, 0, -1)", x.log(2, 0, -1), -2);
        due("log(2, -1, 9)", x.log(2, -1, 9), -2);
        due("log(2, 0, 99)", x.log(2, 0, 99), 3);
        due("log(3, 0, 1)", x.log(3, 0, 1), -2);
        due("log(-2, 0, 1)", x.log(-2, 0, 1), -2);
        due("count(13)", x.count(13), 3);
        for (int k = 4; k <= 10; k++) due("log " + k, x.log(2, 0, 0), k);
        due("an eleventh", x.log(2, 0, 0), -2);
        due("count(13)", x.count(13), 10);
        due("log(NONE)", x.log(-1, 7, 9), 0);
        due("count(13)", x.count(13), 0);
        OnePen none = new OnePen();
        due("no office", none.log(0, 0, 1), -2);
        due("no office", none.log(-1, 0, 0), 0);
    }

    private static void ordersAre(OnePen x, int... want) {
        for (int k = 0; k < 13; k++) due("orders(" + k + ")", x.orders(k), want[k]);
    }

    private static void orders() {
        begin(24);
        OnePen x = told(PLAIN);
        ordersAre(x, 6, 0, 1, 2, -2, -2, -2, 7, 7, 7, -2, -2, -2);
        x.sign(1);
        x.log(0, 2, 0);
        // 1 2 0, 2 0 1, 2 1 0
        ordersAre(x, 3, 1, 2, 0, -2, -2, -2, 6, 7, 3, -2, -2, -2);
        x.log(2, 0, 8);
        ordersAre(x, 2, 1, 2, 0, -2, -2, -2, 6, 6, 1, -2, -2, -2);
        x.log(1, 1, 1);
        ordersAre(x, 1, 2, 1, 0, -2, -2, -2, 4, 2, 1, -2, -2, -2);
        x.log(2, 1, 0);
        ordersAre(x, 0, -2, -2, -2, -2, -2, -2, -2, -2, -2, -2, -2, -2);
        due("orders(13)", x.orders(13), -3);
        due("orders(-1)", x.orders(-1), -3);
        due("no office", new OnePen().orders(0), -3);
        ordersAre(told("office 1 1 0"), 1, -2, -2, -2, -2, -2, -2, -2, -2, -2, -2, -2, -2);
        OnePen six = told("office 99 200 0;clerk 0" + times(6, ";paper 0 1 9 1"));
        ordersAre(six, 720, 0, 1, 2, 3, 4, 5, 63, 63, 63, 63, 63, 63);
        six.log(1, 0, 5);
        ordersAre(six, 120, 1, 2, 3, 4, 5, 0, 62, 62, 62, 62, 62, 1);
    }

    private static void look() {
        begin(25);
        OnePen x = told(PLAIN);
        due("look(0)", x.look(0), 0);
        due("look(1)", x.look(1), 2);
        x.log(0, 2, 0);
        due("look(0)", x.look(0), 1);
        due("look(1)", x.look(1), 1);
        due("look(2)", x.look(2), -1);
        due("look(-1)", x.look(-1), -1);
        x.log(0, 0, 2);
        due("no row", x.look(0), -2);
        due("no row", x.look(1), -2);
        due("no office", new OnePen().look(0), -1);
        due("no papers", told("office 1 1 0").look(0), -2);
        due("no papers", told("office 1 1 0").look(1), -2);
    }

    private static void seed() {
        begin(26);
        OnePen x = new OnePen();
        due("seed(9)", x.seed(9), 0);
        due("seed(-1)", x.seed(-1), -1);
        due("seed(MAX)", x.seed(Integer.MAX_VALUE), 9);
        due("seed(0)", x.seed(0), Integer.MAX_VALUE);
        due("count(15)", x.count(15), 0);
    }

    private static void days() {
        begin(27);
        OnePen x = told(PAIR);
        // draws 0, 21468, 9988, 22117, 3498, 16927, 16045: the papers first are 0, 0, 0, 1
        due("days(1, 0)", x.days(1, 0), 5);
        due("days(3, 0)", x.days(3, 0), 15);
        due("days(4, 0)", x.days(4, 0), 22);
        due("days(4, 1)", x.days(4, 1), 20);
        due("x as it was", x.count(15), 0);
        due("days(20, 1)", x.days(20, 1), 100);
        x.seed(229283573);
        // the next are 16927, 16045: paper 1 is first
        due("days(1, 0)", x.days(1, 0), 7);
        due("days(0, 0)", x.days(0, 0), -1);
        due("days(21, 0)", x.days(21, 0), -1);
        due("days(1, 2)", x.days(1, 2), -1);
        due("days(1, -1)", x.days(1, -1), -1);
        due("no office", new OnePen().days(1, 0), -1);
        x.sign(0);
        due("what is signed counts", x.days(2, 0), 10);
        due("minutes", x.days(2, 1), 10);
        due("nothing stays", x.count(7), 2);
        OnePen far = told(BIG);
        pass(far, 9990);
        // paper 0 is drawn and can't be signed: the day ends
        due("days(1, 1)", far.days(1, 1), 9990);
        far.seed(229283573);
        // paper 1 till 9999, then paper 0, which can't be
        due("days(1, 1)", far.days(1, 1), 9999);
        due("no papers", told("office 1 1 0").days(3, 1), 0);
        due("VOID ones", told(RING).days(20, 0), 0);
    }

    private static void count() {
        begin(28);
        OnePen x = told(PLAIN);
        rule(x, "sign 1");
        x.sign(0);
        x.sign(1);
        x.log(0, 0, 1);
        x.seed(4);
        tell(x, "abc");
        int[] want = {10, 12, 2, 2, 1, 3, 1, 15, 1, 1, 3, 3, 12, 1, 2, 4, 3};
        for (int k = 0; k < want.length; k++) due("count(" + k + ")", x.count(k), want[k]);
        due("count(17)", x.count(17), -1);
        due("count(-1)", x.count(-1), -1);
        OnePen none = new OnePen();
        rule(none, "sign 1");
        none.seed(4);
        tell(none, "abc");
        due("rules without an office", none.count(6), 1);
        due("x without an office", none.count(15), 4);
        due("tape without an office", none.count(16), 3);
        due("no clerks", told("office 1 1 0").count(8), -1);
        due("clerk 0", told("office 1 1 0;clerk 5").count(8), 0);
    }

    private static void images() {
        begin(29);
        OnePen x = told(PLAIN);
        x.sign(0);
        due("image(0)", x.image(0), 4);
        due("image(3)", x.image(3), 4);
        due("image(4)", x.image(4), -1);
        due("image(-1)", x.image(-1), -1);
        x.sign(1);
        due("image(0) again", x.image(0), 15);
        due("back(0)", x.back(0), 15);
        due("no office", new OnePen().image(1), 0);
    }

    private static void back() {
        begin(30);
        OnePen x = new OnePen();
        due("back(0)", x.back(0), -1);
        x.seed(3);
        x.image(0);
        tell(x, PLAIN);
        x.office();
        x.sign(0);
        x.blank(2);
        x.log(0, 0, 1);
        x.seed(8);
        x.image(1);
        x.sign(1);
        x.log(1, 0, 0);
        x.seed(9);
        rule(x, "sign 1");
        tell(x, "abc");
        due("back(1)", x.back(1), 4);
        int[] want = {10, 12, 2, 2, 1, 3, 1, 4, 0, 6, 8, 1, 5, 1, 0, 8, 3};
        for (int k = 0; k < want.length; k++) due("count(" + k + ")", x.count(k), want[k]);
        due("undo()", x.undo(), -1);
        due("paper(0, 4)", x.paper(0, 4), 4);
        due("paper(2, 6)", x.paper(2, 6), 1);
        due("orders(0)", x.orders(0), 3);
        due("back(2)", x.back(2), -1);
        due("back(4)", x.back(4), -1);
        due("back(-1)", x.back(-1), -1);
        x.sign(1);
        due("back(1) once more", x.back(1), 4);
        x.log(-1, 0, 0);
        x.log(2, 2, 0);
        due("orders(1) of other logs", x.orders(1), 2);
        due("back(1) with its logs", x.back(1), 4);
        due("orders(0)", x.orders(0), 3);
        due("orders(1)", x.orders(1), 0);
        due("back(0)", x.back(0), 0);
        due("no office", x.plan(0), -3);
        due("no clerks", x.count(8), -1);
        due("x", x.count(15), 3);
        due("rules stay", x.count(6), 1);
        due("the tape stays", x.count(16), 3);
        due("back(1) from there", x.back(1), 4);
        due("signed", x.count(11), 1);
    }
}
