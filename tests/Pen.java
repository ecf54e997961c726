/** An object of OnePen whose calls are counted, for the document promises nothing behind the 512th. */
final class Pen {
    static final int MOST_CALLS = 512;

    private final OnePen x = new OnePen();
    private int calls;

    private OnePen asked() {
        calls++;
        if (calls > MOST_CALLS) throw new IllegalStateException("the test asks more than 512 calls of one object");
        return x;
    }

    int callsLeft() { return MOST_CALLS - calls; }

    /** The object itself, for what is behind the 512th call. */
    OnePen uncounted() { return x; }

    // ---- texts

    /** The text comes behind what is on the TAPE. */
    Pen tell(String text) {
        int had = count(16);
        for (int at = 0; at < text.length(); at += 20) {
            int[] n = new int[5];
            for (int k = 0; k < 20; k++) {
                int b = at + k < text.length() ? text.charAt(at + k) & 255 : 0;
                n[k / 4] = n[k / 4] << 8 | b;
            }
            feed(n[0], n[1], n[2], n[3], n[4]);
        }
        end(had + text.length());
        return this;
    }

    /** An object with this OFFICE. */
    static Pen of(String office) {
        Pen p = new Pen().tell(office);
        int papers = p.office();
        if (papers < 0) throw new IllegalStateException("office() of " + office + " answered " + papers);
        return p;
    }

    /** The text is a RULE. */
    int rule(String text) {
        tell(text);
        return rule();
    }

    Pen with(String rule) {
        int number = rule(rule);
        if (number < 0) throw new IllegalStateException("rule() of " + rule + " answered " + number);
        return this;
    }

    /** So many minutes pass, a hundred at a time. */
    Pen pass(int minutes) {
        for (int left = minutes; left > 0; left -= 100) await(Math.min(left, 100));
        return this;
    }

    // ---- the face

    int feed(int a, int b, int c, int d, int e) { return asked().feed(a, b, c, d, e); }
    int end(int n) { return asked().end(n); }
    int office() { return asked().office(); }
    int rule() { return asked().rule(); }
    int paper(int paper, int what) { return asked().paper(paper, what); }
    int clerk(int clerk, int what) { return asked().clerk(clerk, what); }
    int sign(int paper) { return asked().sign(paper); }
    int blank(int paper) { return asked().blank(paper); }
    int await(int minutes) { return asked().await(minutes); }
    int filling() { return asked().filling(); }
    int change() { return asked().change(); }
    int undo() { return asked().undo(); }
    int when(int paper, int what) { return asked().when(paper, what); }
    int by(int rule, int what) { return asked().by(rule, what); }
    int waits(int clerk, int rule) { return asked().waits(clerk, rule); }
    int plan(int what) { return asked().plan(what); }
    int rings() { return asked().rings(); }
    int blanks(int what) { return asked().blanks(what); }
    int second(int clerk) { return asked().second(clerk); }
    int keep(int what) { return asked().keep(what); }
    int late() { return asked().late(); }
    int log(int what, int one, int other) { return asked().log(what, one, other); }
    int orders(int what) { return asked().orders(what); }
    int look(int what) { return asked().look(what); }
    int seed(int x) { return asked().seed(x); }
    int days(int m, int what) { return asked().days(m, what); }
    int count(int what) { return asked().count(what); }
    int image(int k) { return asked().image(k); }
    int back(int k) { return asked().back(k); }
}
