import java.util.function.Supplier;

/** Promise 5 and what 'Terms' says of RULES, their WORDS and SUMS: each bound from both sides. */
public final class RuleBoundsTests {
    private static final Cases c = new Cases();

    private static final String ONE = "office 9 9 0;clerk 0;paper 0 1 9 1";
    private static final String TWO = "office 9 9 0;clerk 0;paper 0 1 9 1;paper 0 1 9 2";
    private static final String[] WORDS = {"paper", "clerk", "strokes", "due", "worth", "way", "left", "needs", "bears", "ink", "nib",
        "minute", "begins"};
    /** 2 to the 63rd, which is the least number of 64 bits. */
    private static final String LEAST = "65536*65536*65536*32768";

    public static void main(String[] args) {
        howManyRules();
        clauses();
        textLength();
        numbers();
        words();
        signs();
        bytes();
        depth();
        parts();
        faultPlaces();
        precedence();
        firstClause();
        divisions();
        sixtyFourBits();
        wordValues();
        wordsOfNeedsAndBears();
        wordsOfThePen();
        c.finish();
    }

    /** The text without its @ has its first FAULT where the @ stands, and no RULE is told then. */
    private static void fault(String marked, int code) {
        int place = marked.indexOf('@');
        Pen p = new Pen().tell(marked.replace("@", ""));
        c.due("rule() of '" + marked + "'", p.rule(), -2 - (1 + 8 * place + code));
        c.due("count(16) behind it", p.count(16), 0);
        c.due("count(6) behind it", p.count(6), 0);
    }

    private static void taken(String text) {
        Pen p = new Pen();
        c.due("rule() of '" + text + "'", p.rule(text), 0);
        c.due("count(16) behind it", p.count(16), 0);
        c.due("count(6) behind it", p.count(6), 1);
    }

    private static String times(int n, String text) {
        return text.repeat(n);
    }

    /** A RULE with this TEST signs the PAPER, or none. */
    private static void holds(Supplier<Pen> made, int paper, String test, boolean want) {
        Pen p = made.get().with("sign 1 if paper=" + paper + " and " + test);
        c.due("if paper=" + paper + " and " + test, p.by(0, 3), want ? paper : -2);
    }

    private static void holds(String test, boolean want) {
        holds(() -> Pen.of(ONE), 0, test, want);
    }

    private static String number(long n) {
        return n < 0 ? "0-" + -n : n > 99999 ? "99999+" + (n - 99999) : "" + n;
    }

    /** Of the PAPER the SUM is so much, and neither one more nor one less. */
    private static void value(Supplier<Pen> made, int paper, String sum, long want) {
        holds(made, paper, sum + "=" + number(want), true);
        holds(made, paper, sum + "=" + number(want + 1), false);
        holds(made, paper, sum + "=" + number(want - 1), false);
    }

    // ---- how many, how long

    private static Pen six() {
        Pen p = Pen.of(ONE);
        for (int k = 0; k < 6; k++) p.with("sign " + k);
        return p;
    }

    private static void howManyRules() {
        c.about("Terms: RULES 0 to 5; 5: its number");
        Pen p = new Pen();
        for (int k = 0; k < 6; k++) {
            c.due("rule()", p.rule("sign " + k), k);
            c.due("count(6)", p.count(6), k + 1);
            c.due("count(16)", p.count(16), 0);
        }
        c.about("5: NONE, and nothing happens: there are 6");
        c.refused("rule() of a seventh", () -> six().tell("sign 1"), Pen::rule, -1);
        c.refused("rule() of a seventh with a FAULT", () -> six().tell("sign 1;"), Pen::rule, -1);
        c.refused("rule() of an empty TAPE", RuleBoundsTests::six, Pen::rule, -1);
        c.row("RULE 0 to 5 and 6", k -> six().by(k, 2), 0, 1, 1, 1, 1, 1, -3);
        Pen q = six().tell(ONE);
        c.due("rule() of a seventh", q.rule(), -1);
        c.due("office() of the TAPE that stays", q.office(), 1);
        c.about("5: -2 - its FAULT: no RULE comes");
        Pen r = Pen.of(ONE);
        for (int k = 0; k < 6; k++) {
            c.due("rule() with a FAULT", r.rule("sign"), -2 - (1 + 8 * 4));
            c.due("count(6)", r.count(6), k);
            c.due("rule()", r.rule("sign 1"), k);
        }
        c.alike("after a FAULT", () -> {
            Pen s = Pen.of(ONE).with("sign 1");
            s.rule("sign 1;");
            return s;
        }, () -> Pen.of(ONE).with("sign 1"));
    }

    private static void clauses() {
        c.about("Terms: RULES, 12 CLAUSES at most; one CLAUSE too many (at its first byte)");
        taken("sign 1");
        taken("sign 1" + times(11, ";sign 1"));
        fault("sign 1" + times(11, ";sign 1") + ";@sign 1", 4);
        fault("sign 1" + times(11, ";sign 1") + ";  @sign", 4);
        fault("sign 1" + times(11, ";sign 1") + ";@sign 100000", 4);
        fault("sign 1" + times(11, ";sign 1") + ";@", 0);
        fault("sign 1" + times(11, ";sign 1") + ";@;", 0);
        fault("sign 1" + times(11, ";sign 1") + ";@signs 1", 0);
        fault("sign 1" + times(11, ";sign 1") + ";@1", 0);
        taken("sign 1 if 1=1" + times(11, ";sign 1 if 1=1"));
        fault("sign 1 if 1=1" + times(11, ";sign 1 if 1=1") + ";@sign 1 if 1=1", 4);
        Pen p = Pen.of(ONE).with("sign 0 if 1=2" + times(10, ";sign 0 if 1=2") + ";sign 1");
        c.due("by its twelfth CLAUSE", p.by(0, 2), 1);
    }

    private static void textLength() {
        c.about("Terms: RULES, texts likewise (of at most 400 bytes)");
        taken("sign 1" + times(394, " "));
        taken("sign" + times(395, " ") + "1");
        taken(times(393, " ") + "sign 12");
        Pen p = new Pen().tell("sign" + times(395, " ") + "1");
        c.due("the 401st byte", p.feed(0x3b3b3b3b, 0, 0, 0, 0), -1);
        c.due("rule() without it", p.rule(), 0);
        c.about("Terms: FAULTS of RULES, the first and the last place; the end (behind the last byte)");
        fault("@", 0);
        fault(" @", 0);
        fault("@x", 0);
        fault("sign 1" + times(393, " ") + "@x", 0);
        fault("sign 1" + times(393, " ") + ";@", 0);
        fault("sign" + times(396, " ") + "@", 0);
        fault(times(400, " ") + "@", 0);
        fault(times(399, " ") + "@x", 0);
        fault("@" + times(400, "s"), 0);
        fault(times(396, " ") + "sign@", 0);
        fault("sign @" + times(395, "0"), 1);
        fault("sign@", 0);
        fault("sign @", 0);
        fault("sign 1;@", 0);
        fault("sign 1;sign@", 0);
        fault("sign 1+@", 0);
        fault("sign 1* @", 0);
        fault("sign 1 if@", 0);
        fault("sign 1 if not@", 0);
        fault("sign 1 if [@", 0);
        fault("sign 1 if 1@", 0);
        fault("sign 1 if 1=@", 0);
        fault("sign 1 if 1=1 or@", 0);
        fault("sign 1 if 1=1 and @", 0);
        fault("sign 1 if [1=1@", 0);
        fault("sign 1 if [[1=1]@", 0);
    }

    // ---- what the pieces are

    private static void numbers() {
        c.about("Terms: NUMBER (1 to 5 digits)");
        for (String n : new String[] {"0", "9", "10", "99999", "00000", "00001"}) taken("sign " + n);
        for (String n : new String[] {"100000", "000000", "000001", "999999", "4294967296", "18446744073709551617"}) {
            fault("sign @" + n, 1);
            fault("sign 1+@" + n, 1);
            fault("sign 1 if @" + n + "=1", 1);
            fault("sign 1 if 1=@" + n, 1);
        }
        value(() -> Pen.of(ONE), 0, "99999", 99999);
        value(() -> Pen.of(ONE), 0, "33333*3", 99999);
        value(() -> Pen.of(ONE), 0, "00017", 17);
        value(() -> Pen.of(ONE), 0, "0", 0);
        c.about("Terms: NUMBER, as far as digits go on");
        fault("sign 1 @2", 0);
        fault("sign 99999 @9", 0);
        fault("sign @999999 9", 1);
        fault("sign 5@worth", 0);
        fault("sign 5@x", 0);
        fault("sign 1 if 1=1 @1", 0);
    }

    private static void words() {
        c.about("Terms: WORDS of a PAPER: each of the thirteen, and no other");
        for (String w : WORDS) {
            taken("sign " + w);
            taken("sign 1 if " + w + "<" + w);
            fault("sign @" + w + "s", 0);
            fault("sign @x" + w, 0);
            fault("sign @" + w.substring(1), 0);
            fault("sign @" + w.substring(0, w.length() - 1), 0);
            fault("sign @" + w + w, 0);
            fault("sign @" + w.substring(0, 1).toUpperCase() + w.substring(1), 0);
            fault("sign " + w + "@1", 0);
            fault("sign " + w + " @" + w, 0);
        }
        for (String w : new String[] {"sign", "if", "or", "and", "not", "office", "away", "rests", "x", "seat"}) {
            fault("sign @" + w, 0);
            fault("sign 1+@" + w, 0);
            fault("sign 1 if 1=@" + w, 0);
        }
        for (String w : new String[] {"sign", "if", "or", "and", "office", "x"}) fault("sign 1 if @" + w + " 1=1", 0);
        c.about("Terms: WORD (small letters, as far as these go on)");
        taken("sign1if1=1");
        taken("sign worth if1=1or1=1and not1=1");
        taken("sign 1 if not[not[1=1]]and[1=1]or 1=1;sign2");
        fault("@signworth", 0);
        fault("sign @worthif 1=1", 0);
        fault("sign 1 @ifnot1=1", 0);
        fault("sign 1 @i f 1=1", 0);
        fault("sign 1 if @notnot 1=1", 0);
        fault("sign 1 if 1=1 @andnot 1=1", 0);
        fault("sign 1 if 1=1 @xor 1=1", 0);
        fault("sign 1 @If 1=1", 0);
        fault("@Sign 1", 0);
        fault("sign 1;@clerk 0", 0);
        fault("@office 1 1 0", 0);
    }

    private static void signs() {
        c.about("Terms: SIGN one of < <= = >= >: below, at and above");
        String[] all = {"<", "<=", "=", ">=", ">"};
        boolean[][] want = {{true, false, false}, {true, true, false}, {false, true, false}, {false, true, true}, {false, false, true}};
        for (int k = 0; k < 5; k++) {
            for (int v = 4; v <= 6; v++) {
                holds(v + all[k] + "5", want[k][v - 4]);
                holds("0-" + (10 - v) + " " + all[k] + " 0-5", want[k][v - 4]);
            }
        }
        c.about("Terms: SIGN, and no other");
        fault("sign 1 if 1=@<1", 0);
        fault("sign 1 if 1=@>1", 0);
        fault("sign 1 if 1=@=1", 0);
        fault("sign 1 if 1<@>1", 0);
        fault("sign 1 if 1>@<1", 0);
        fault("sign 1 if 1< @=1", 0);
        fault("sign 1 if 1> @=1", 0);
        fault("sign 1 if 1<=@=1", 0);
        fault("sign 1 if 1>=@>1", 0);
        fault("sign 1 if 1@!=1", 0);
        fault("sign 1 if 1<=@", 0);
        fault("sign 1 if 1<@", 0);
        c.about("Terms: FACT, a SUM, a SIGN and a SUM");
        fault("sign 1 if 1 @and 1=1", 0);
        fault("sign 1 if [1@]", 0);
        fault("sign 1 if [@]", 0);
        fault("sign 1 if 1@;sign 1", 0);
        fault("sign 1 if 1<2@<3", 0);
        fault("sign 1 if 1=1@=1", 0);
        fault("sign 1 if [1=1]@=1", 0);
        fault("sign 1 if [1@]=1", 0);
        fault("sign 1 if 1=@[1]", 0);
        fault("sign 1 if 1=@not 1", 0);
        fault("sign @[1]", 0);
        fault("sign 1+@[1]", 0);
        fault("sign @-1", 0);
        fault("sign @+1", 0);
        fault("sign 1-@-1", 0);
        fault("sign 1*@/1", 0);
        fault("sign 1 @or 1=1", 0);
        fault("sign 1 @and 1=1", 0);
        fault("sign 1 if 1=1 @if 1=1", 0);
        fault("sign 1 if 1=1@]", 0);
        fault("sign 1 if [1=1]@]", 0);
        fault("sign 1 if [1=1@;sign 1", 0);
        fault("sign 1;@;", 0);
    }

    private static void byteAt(String ahead, int b, String behind, int place) {
        Pen p = new Pen().tell(ahead + (char) b + behind);
        c.due("rule() of '" + ahead + "' byte " + b + " '" + behind + "'", p.rule(), place < 0 ? 0 : -2 - (1 + 8 * place));
    }

    private static boolean isOf(int b, String these) {
        return these.indexOf((char) b) >= 0;
    }

    private static void bytes() {
        String digits = "0123456789";
        String joins = "+-*/%";
        c.about("Terms: a byte that can't stand there, each of the 256: ahead of a RULE");
        for (int b = 0; b < 256; b++) byteAt("", b, "sign 1", b == ' ' ? -1 : 0);
        c.about("Terms: a byte that can't stand there, each of the 256: behind the WORD sign");
        for (int b = 0; b < 256; b++) byteAt("sign", b, "1", isOf(b, digits + " ") ? -1 : b >= 'a' && b <= 'z' ? 0 : 4);
        c.about("Terms: a byte that can't stand there, each of the 256: in place of a SUM");
        for (int b = 0; b < 256; b++) byteAt("sign ", b, "", isOf(b, digits) ? -1 : b == ' ' ? 6 : 5);
        c.about("Terms: a byte that can't stand there, each of the 256: behind a SUM");
        for (int b = 0; b < 256; b++) byteAt("sign 1", b, "", isOf(b, digits + " ") ? -1 : isOf(b, joins + ";") ? 7 : 6);
        c.about("Terms: a byte that can't stand there, each of the 256: in place of a TEST");
        for (int b = 0; b < 256; b++) byteAt("sign 1 if ", b, "", isOf(b, digits + " [") ? 11 : 10);
        c.about("Terms: a byte that can't stand there, each of the 256: in place of a SIGN");
        for (int b = 0; b < 256; b++) byteAt("sign 1 if 1", b, "", isOf(b, digits + joins + " <=>") ? 12 : 11);
        c.about("Terms: a byte that can't stand there, each of the 256: behind a TEST");
        for (int b = 0; b < 256; b++) byteAt("sign 1 if 1=1", b, "", isOf(b, digits + " ") ? -1 : isOf(b, joins + ";") ? 14 : 13);
        c.about("Terms: a byte that can't stand there, each of the 256: in place of a ]");
        for (int b = 0; b < 256; b++) byteAt("sign 1 if [1=1", b, "", b == ']' ? -1 : isOf(b, digits + joins + " ") ? 15 : 14);
        c.about("Terms: a byte that can't stand there, each of the 256: behind a ]");
        for (int b = 0; b < 256; b++) byteAt("sign 1 if [1=1]", b, "", b == ' ' ? -1 : b == ';' ? 16 : 15);
        c.about("Terms: a byte that can't stand there, each of the 256: in a SIGN of two");
        for (int b = 0; b < 256; b++) byteAt("sign 1 if 1<", b, "=1", isOf(b, digits + " =") ? 13 : 12);
        c.about("Terms: Blanks (32) stand between as one likes");
        taken("   sign   1   +   2   *   3   if   [   not   1   <=   1   ]   or   1   =   1   and   worth   >   0   ;   sign   2   ");
        taken("sign1+2*3if[not1<=1]or1=1and worth>0;sign2");
    }

    // ---- ten deep, sixty in all

    private static void depth() {
        c.about("Terms: [ lie within one another 10 deep at most; too deep (at the sign that opens)");
        taken("sign 1 if " + times(10, "[") + "1=1" + times(10, "]"));
        fault("sign 1 if " + times(10, "[") + "@[1=1" + times(11, "]"), 2);
        fault("sign 1 if " + times(10, "[") + "  @[", 2);
        fault("sign 1 if 1=1 and " + times(10, "[") + "1=1 or @[", 2);
        c.about("Terms: not lie within one another 10 deep at most; too deep (at the word not)");
        taken("sign 1 if " + times(10, "not ") + "1=1");
        fault("sign 1 if " + times(10, "not ") + "@not 1=1", 2);
        fault("sign 1 if " + times(10, "not ") + "  @not", 2);
        fault("sign 1 if " + times(10, "not ") + "@nots", 0);
        c.about("Terms: [ and not together");
        for (String ten : new String[] {times(5, "[not "), times(5, "not["), times(9, "[") + "not ", times(9, "not ") + "[", "[" + times(9, "not "),
                "not " + times(9, "[")}) {
            String closed = "1=1" + times(ten.length() - ten.replace("[", "").length(), "]");
            taken("sign 1 if " + ten + closed);
            fault("sign 1 if " + ten + "@[" + closed + "]", 2);
            fault("sign 1 if " + ten + "@not " + closed, 2);
        }
        c.about("Terms: what is closed is no longer around what follows");
        String ten = times(10, "[") + "1=1" + times(10, "]");
        taken("sign 1 if " + ten + " and " + ten + " or " + ten + ";sign 1 if " + ten);
        taken("sign 1 if " + times(10, "not ") + "1=1 and " + times(10, "not ") + "1=1;sign 1 if " + times(10, "not ") + "1=1");
        taken("sign 1 if [" + times(9, "not ") + "1=1 and " + times(9, "not ") + "1=1 or " + times(9, "[") + "1=1" + times(10, "]"));
        fault("sign 1 if [" + times(9, "not ") + "1=1 and " + times(9, "not ") + "@not 1=1]", 2);
        fault("sign 1 if [[1=1] and " + times(9, "[") + "@[", 2);
        fault("sign 1 if " + ten + " and " + times(10, "[") + "@[", 2);
        fault("sign 1 if 1=1;sign 1 if " + times(10, "[") + "@[", 2);
        c.about("Terms: what ten deep tells");
        holds(times(9, "not ") + "1=1", false);
        holds(times(8, "not ") + "1=1", true);
        holds(times(10, "not ") + "1=1", true);
        holds(times(10, "not ") + "1=2", false);
        holds(times(10, "[") + "1=1" + times(10, "]"), true);
        holds(times(10, "[") + "1=2" + times(10, "]"), false);
        holds(times(10, "[1=1 and ") + "1=1" + times(10, "]"), true);
        holds(times(10, "[1=1 and ") + "1=2" + times(10, "]"), false);
        holds(times(10, "[1=2 or ") + "1+2*3=7" + times(10, "]"), true);
        holds(times(10, "[1=2 or ") + "1+2*3=9" + times(10, "]"), false);
    }

    private static void parts() {
        String v57 = "sign 1" + times(56, "+1");
        c.about("Terms: at most 60 VALUES; one VALUE too many (at its first byte)");
        taken(v57 + "+1+1+1");
        fault(v57 + "+1+1+1+@1", 3);
        fault(v57 + "+1+1+1+@99999", 3);
        fault(v57 + "+1+1+1* @worth", 3);
        fault(v57 + "+1+1+1;sign @1", 3);
        taken(v57 + "-1*1/1");
        fault(v57 + "-1*1/1% @1", 3);
        c.about("Terms: and FACTS made of a SIGN, together; of a FACT at its SIGN");
        taken(v57 + " if 1=1");
        taken(v57 + " if[not[not 1<=1]]");
        fault(v57 + "+1 if 1=@1", 3);
        fault(v57 + "+1 if 1<=@1", 3);
        fault(v57 + "+1+1 if 1@=1", 3);
        fault(v57 + "+1+1 if 1 @<=1", 3);
        fault(v57 + "+1+1 if 1@>=1", 3);
        fault(v57 + "+1+1 if 1@<1", 3);
        fault(v57 + "+1+1 if 1@>1", 3);
        fault(v57 + "+1+1 if 1+@1", 3);
        fault(v57 + "+1+1+1 if @1=1", 3);
        fault(v57 + "+1+1+1 if not[@1=1]", 3);
        taken("sign 1+1+1 if 1=1" + times(18, " and 1=1"));
        fault("sign 1+1+1 if 1=1" + times(18, " and 1=1") + " and @1=1", 3);
        fault("sign 1+1 if 1=1" + times(18, " and 1=1") + " and 1@=1", 3);
        fault("sign 1 if 1=1" + times(18, " and 1=1") + " and 1=@1", 3);
        c.about("Terms: 60 in all CLAUSES of a RULE, and anew in another one");
        taken("sign 1" + times(29, "+1") + ";sign 1" + times(29, "+1"));
        fault("sign 1" + times(29, "+1") + ";sign 1" + times(29, "+1") + "+@1", 3);
        fault("sign 1" + times(29, "+1") + ";sign 1" + times(28, "+1") + " if 1@=1", 3);
        taken("sign 1+1+1+1+1" + times(11, ";sign 1+1+1+1+1"));
        fault("sign 1+1+1+1+1+1" + times(10, ";sign 1+1+1+1+1") + ";sign 1+1+1+1+@1", 3);
        taken("sign 1+1 if 1=1" + times(11, ";sign 1+1 if 1=1"));
        fault("sign 1+1+1 if 1=1" + times(10, ";sign 1+1 if 1=1") + ";sign 1+1 if 1=@1", 3);
        Pen p = new Pen();
        c.due("sixty", p.rule(v57 + " if 1=1"), 0);
        c.due("one too many", p.rule(v57 + "+1 if 1=1"), -2 - (1 + 8 * (v57.length() + 8) + 3));
        c.due("sixty again", p.rule(v57 + "+1+1+1"), 1);
        c.about("Terms: what sixty tell");
        Pen q = Pen.of(ONE).with("sign 1" + times(59, "-1")).with("sign 59" + times(58, "-1") + "+0").with("sign 1 if " + times(28, "1+") + "1="
            + times(28, "1+") + "1").with("sign 1 if " + times(28, "1+") + "1=" + times(28, "1+") + "2");
        c.row("by", k -> q.by(k, 2), 0, 1, 1, 0);
    }

    private static void faultPlaces() {
        String v60 = "sign 1" + times(59, "+1");
        c.about("Terms: FAULTS, the first along the text, in a RULE");
        fault("sign @100000+x", 1);
        fault("sign @x+100000", 0);
        fault("sign 1 if " + times(10, "[") + "@[x", 2);
        fault("sign 1 if " + times(10, "[") + "@x[", 0);
        fault(v60 + "+@1+100000", 3);
        fault("sign 1" + times(58, "+1") + " if 1@=100000", 3);
        fault("sign 1 if 1=@100000 and x", 1);
        fault("sign 1" + times(11, ";sign 1") + ";@sign x", 4);
        c.about("Terms: Of one place the least, in a RULE");
        fault(v60 + "+@100000", 1);
        fault(v60 + "+@x", 0);
        fault(v60 + "+@if", 0);
        fault(v60 + "+@;", 0);
        fault(v60 + "+@", 0);
        fault(v60 + " @1", 0);
        fault(v60 + " @100000", 0);
        fault(v60 + " if @100000=1", 1);
        fault(v60 + " if @]", 0);
        fault(v60 + " if " + times(10, "[") + "@[", 2);
        fault("sign 1" + times(58, "+1") + " if 1@;", 0);
        fault("sign 1 @100000", 0);
    }

    // ---- what a RULE says

    private static void precedence() {
        c.about("Terms: TEST: PART { or PART }. PART: FACT { and FACT }");
        holds("[1=1 or 1=1 and 1=2]", true);
        holds("[[1=1 or 1=1] and 1=2]", false);
        holds("[1=2 and 1=1 or 1=1]", true);
        holds("[1=2 and [1=1 or 1=1]]", false);
        holds("[1=2 or 1=2 or 1=1]", true);
        holds("[1=1 and 1=1 and 1=2]", false);
        holds("[1=2 or 1=1 and 1=1 or 1=2]", true);
        holds("[1=2 or 1=1 and 1=2 or 1=2]", false);
        c.about("Terms: not FACT, the FACT alone");
        holds("[not 1=2 and 1=2]", false);
        holds("not [1=2 and 1=2]", true);
        holds("[not 1=1 or 1=1]", true);
        holds("not [1=1 or 1=1]", false);
        holds("[not 1=2 or 1=1 and 1=2]", true);
        c.about("Terms: SUM of TERMS, TERM of VALUES, from the left");
        value(() -> Pen.of(ONE), 0, "2+3*4", 14);
        value(() -> Pen.of(ONE), 0, "2*3+4", 10);
        value(() -> Pen.of(ONE), 0, "20-3-2", 15);
        value(() -> Pen.of(ONE), 0, "20-3+2", 19);
        value(() -> Pen.of(ONE), 0, "7/2*2", 6);
        value(() -> Pen.of(ONE), 0, "7*2/2", 7);
        value(() -> Pen.of(ONE), 0, "17%7*3", 9);
        value(() -> Pen.of(ONE), 0, "17*3%7", 2);
        value(() -> Pen.of(ONE), 0, "100/7%5", 4);
        value(() -> Pen.of(ONE), 0, "3-10/2*3+7%4", -9);
    }

    private static int signedBy(String rule) {
        return Pen.of(ONE).with(rule).by(0, 2);
    }

    private static void firstClause() {
        c.about("BY A RULE: the first CLAUSE without a TEST, or whose TEST holds");
        c.due("0 ahead", signedBy("sign 0;sign 5"), 0);
        c.due("0 ahead, whose TEST holds", signedBy("sign 0 if 1=1;sign 5"), 0);
        c.due("below 0 ahead, whose TEST holds", signedBy("sign 0-1 if 1=1;sign 5"), 0);
        c.due("0 ahead, whose TEST doesn't hold", signedBy("sign 0 if 1=2;sign 5"), 1);
        c.due("5, whose TEST doesn't hold, then 0", signedBy("sign 5 if 1=2;sign 0;sign 7"), 0);
        c.due("two TESTS", signedBy("sign 0 if 1=2;sign 5 if 1=1;sign 0"), 1);
        Pen p = Pen.of(TWO).with("sign 5 if paper=1;sign 6 if paper=1;sign 4").with("sign 3 if paper=1;sign 6 if paper=1;sign 4");
        c.due("each PAPER by its own CLAUSE", p.by(0, 3), 1);
        c.due("each PAPER by its own CLAUSE", p.by(1, 3), 0);
        c.about("BY A RULE: (0 without)");
        c.due("none holds", signedBy("sign 5 if 1=2"), 0);
        c.due("none holds", signedBy("sign 5 if 1=2;sign 6 if 1<1"), 0);
        c.due("one of two PAPERS", Pen.of(TWO).with("sign 5 if paper=1").by(0, 2), 1);
        c.about("BY A RULE: is greatest, if it is above 0");
        c.due("1", signedBy("sign 1"), 1);
        c.due("0", signedBy("sign 0"), 0);
        c.due("below 0", signedBy("sign 0-1"), 0);
        c.row("sign paper", k -> Pen.of(TWO).with("sign paper").by(0, k + 2), 1, 1, -2);
        c.row("sign 1-paper", k -> Pen.of(TWO).with("sign 1-paper").by(0, k + 2), 1, 0, -2);
        c.row("sign 2-paper", k -> Pen.of(TWO).with("sign 2-paper").by(0, k + 2), 2, 0, 1, -2);
        c.row("sign 1+paper", k -> Pen.of(TWO).with("sign 1+paper").by(0, k + 2), 2, 1, 0, -2);
        c.about("BY A RULE: of several the first");
        c.row("sign 1", k -> Pen.of(TWO).with("sign 1").by(0, k + 2), 2, 0, 1, -2);
        c.row("two alike behind a less", k -> Pen.of(TWO + ";paper 0 1 9 2").with("sign worth").by(0, k + 2), 3, 1, 2, 0, -2);
        c.about("BY A RULE: again and again, till there is none");
        c.row("till one is 0", k -> Pen.of(TWO).with("sign 2-minute").by(0, k + 2), 2, 0, 1, -2);
        c.row("till one is 0", k -> Pen.of(TWO).with("sign 1-minute").by(0, k + 2), 1, 0, -2);
    }

    /** A PAPER whose left is 0 less so many. */
    private static Supplier<Pen> late(int minutes) {
        return () -> Pen.of("office 9 9 0;clerk 0;paper 0 1 0 1").pass(minutes);
    }

    private static void divisions() {
        c.about("Terms: / is towards 0");
        value(late(7), 0, "left", -7);
        value(late(7), 0, "left/2", -3);
        value(late(8), 0, "left/2", -4);
        value(late(7), 0, "left/7", -1);
        value(late(7), 0, "left/8", 0);
        value(late(7), 0, "8/left", -1);
        value(late(7), 0, "14/left", -2);
        value(late(7), 0, "6/left", 0);
        value(late(7), 0, "left/left", 1);
        value(late(7), 0, "7/2", 3);
        c.about("Terms: % its rest");
        value(late(7), 0, "left%2", -1);
        value(late(8), 0, "left%2", 0);
        value(late(7), 0, "left%7", 0);
        value(late(7), 0, "left%8", -7);
        value(late(7), 0, "8%left", 1);
        value(late(7), 0, "6%left", 6);
        value(late(7), 0, "left%left", 0);
        value(late(7), 0, "7%2", 1);
        value(late(7), 0, "left%left", 0);
        c.about("Terms: both 0 by 0");
        for (String by : new String[] {"0", "paper", "needs", "way"}) {
            value(late(7), 0, "5/" + by, 0);
            value(late(7), 0, "5%" + by, 0);
            value(late(7), 0, "0/" + by, 0);
            value(late(7), 0, "0%" + by, 0);
            value(late(7), 0, "left/" + by, 0);
            value(late(7), 0, "left%" + by, 0);
            value(late(7), 0, "2+5/" + by + "*3", 2);
            value(late(7), 0, "2+5%" + by + "*3", 2);
        }
        value(late(7), 0, "5/1", 5);
        value(late(7), 0, "5%1", 0);
        value(late(1), 0, "5/left", -5);
        value(late(1), 0, "5%left", 0);
        c.due("sign 5/0", signedBy("sign 5/0"), 0);
        c.due("sign 5%0", signedBy("sign 5%0"), 0);
    }

    private static void sixtyFourBits() {
        c.about("Terms: all goes round in 64 bits: + and -");
        holds(LEAST + "<0", true);
        holds(LEAST + "-1>0", true);
        holds(LEAST + "-1+1<0", true);
        holds(LEAST + "+1<0", true);
        holds(LEAST + "+" + LEAST + "=0", true);
        holds("0-" + LEAST + "=" + LEAST, true);
        holds("0-1-" + LEAST + ">0", true);
        c.about("Terms: all goes round in 64 bits: *");
        holds("65536*65536*65536*65536=0", true);
        holds("65536*65536*65536*16384>0", true);
        holds(LEAST + "*2=0", true);
        holds(LEAST + "*3=" + LEAST, true);
        holds("65536*65536/65536=65536", true);
        holds("46341*46341>0", true);
        holds("99999*99999*99999/99999/99999=99999", true);
        // 99999 ** 4 is 5 * 2 ** 64 above 7762279691451841921
        holds("99999*99999*99999*99999/99999/99999/99999=7762", true);
        holds("99999*99999*99999*99999%10000=1921", true);
        c.about("Terms: all goes round in 64 bits: / and % of the least by -1");
        holds(late(1), 0, LEAST + "/left=" + LEAST, true);
        holds(late(1), 0, LEAST + "/left<0", true);
        holds(late(1), 0, LEAST + "%left=0", true);
        holds(late(1), 0, LEAST + "*left=" + LEAST, true);
        holds(LEAST + "/2+65536*65536*65536*16384=0", true);
        c.about("BY A RULE: a SUM above 0 in 64 bits");
        c.due("the greatest", signedBy("sign " + LEAST + "-1"), 1);
        c.due("one more is the least", signedBy("sign " + LEAST), 0);
        c.due("2 to the 64th", signedBy("sign 65536*65536*65536*65536"), 0);
        c.due("2 to the 64th and 1", signedBy("sign 65536*65536*65536*65536+1"), 1);
        c.due("2 to the 31st", signedBy("sign 65536*32768"), 1);
        c.due("2 to the 32nd", signedBy("sign 65536*65536"), 1);
        c.due("the greatest by 2 to the 32nd", Pen.of(TWO).with("sign worth*65536*65536").by(0, 3), 1);
        c.due("the greatest by 2 to the 31st", Pen.of(TWO).with("sign worth*65536*32768").by(0, 3), 1);
        c.due("the greatest of all and one less", Pen.of(TWO).with("sign " + LEAST + "-worth").by(0, 3), 0);
        c.due("the greatest, and one that goes round", Pen.of(TWO).with("sign " + LEAST + "-2+worth").by(0, 2), 1);
    }

    // ---- the WORDS

    private static final String OFFICE = "office 9 20 2;clerk 3;clerk 20;clerk 0;away 1 30 40;paper 0 4 10 5;paper 1 6 299 30;paper 2 1 0 1;"
        + "rests 1 0;rests 1 2;rests 2 0";

    private static void wordsAre(Supplier<Pen> made, int paper, int... want) {
        for (int k = 0; k < WORDS.length; k++) value(made, paper, WORDS[k], want[k]);
    }

    private static void wordValues() {
        c.about("Terms: WORDS of a PAPER that is not signed, on a new day");
        wordsAre(() -> Pen.of(OFFICE), 0, 0, 0, 4, 10, 5, 0, 10, 0, 2, 9, 20, 0, 0);
        wordsAre(() -> Pen.of(OFFICE), 1, 1, 1, 6, 299, 30, 17, 299, 2, 0, 9, 20, 0, 17);
        wordsAre(() -> Pen.of(OFFICE), 2, 2, 2, 1, 0, 1, 3, 0, 1, 1, 9, 20, 0, 3);
        c.about("Terms: WORDS, later; begins (the minute it would begin to be signed, if it were SIGNED now)");
        Supplier<Pen> later = () -> {
            Pen p = Pen.of(OFFICE);
            p.sign(0);
            return p;
        };
        // filled once, 2 minutes, and 17 minutes of way; its last STROKE is at 28
        wordsAre(later, 1, 1, 1, 6, 299, 30, 17, 295, 1, 0, 5, 16, 4, 23);
        wordsAre(() -> later.get().pass(1), 1, 1, 1, 6, 299, 30, 17, 294, 1, 0, 5, 16, 5, 24);
        // its last STROKE would be at 30, where its CLERK is away till 40
        wordsAre(() -> later.get().pass(2), 1, 1, 1, 6, 299, 30, 17, 293, 1, 0, 5, 16, 6, 41);
        wordsAre(() -> later.get().pass(7), 2, 2, 2, 1, 0, 1, 3, -11, 0, 1, 5, 16, 11, 14);
        c.about("Terms: left (DUE less the minute now): above, at and below 0");
        for (int m = 9; m <= 11; m++) {
            int minute = m;
            value(() -> Pen.of(OFFICE).pass(minute), 0, "left", 10 - m);
        }
        value(() -> Pen.of(ONE).pass(9998), 0, "left", 9 - 9998);
        value(() -> Pen.of(ONE).pass(9998), 0, "minute", 9998);
        value(() -> Pen.of(ONE).pass(9998), 0, "begins", 9998);
    }

    private static void wordsOfNeedsAndBears() {
        c.about("Terms: needs (PAPERS it RESTS on that are not signed), bears (PAPERS not signed that REST on it): 0 to 5");
        String six = "office 99 99 0;clerk 0" + times(6, ";paper 0 1 9 1");
        String all = six + ";rests 0 1;rests 0 2;rests 0 3;rests 0 4;rests 0 5;rests 1 0;rests 2 0;rests 3 0;rests 4 0;rests 5 0";
        value(() -> Pen.of(all), 0, "needs", 5);
        value(() -> Pen.of(all), 0, "bears", 5);
        value(() -> Pen.of(all), 5, "needs", 1);
        value(() -> Pen.of(all), 5, "bears", 1);
        value(() -> Pen.of(six), 5, "needs+bears", 0);
        Supplier<Pen> signed = () -> {
            Pen p = Pen.of(all);
            p.sign(3);
            return p;
        };
        value(signed, 0, "needs", 4);
        value(signed, 0, "bears", 4);
        Supplier<Pen> blank = () -> {
            Pen p = Pen.of(all);
            p.blank(3);
            return p;
        };
        value(blank, 0, "needs", 5);
        value(blank, 0, "bears", 5);
        Supplier<Pen> other = () -> {
            Pen p = Pen.of(all);
            p.sign(0);
            return p;
        };
        value(other, 5, "needs+bears", 0);
    }

    private static void wordsOfThePen() {
        c.about("Terms: ink (STROKES the pen has left), nib (STROKES till it crosses): full and none");
        Supplier<Pen> empty = () -> {
            Pen p = Pen.of("office 4 4 2;clerk 0;paper 0 4 99 1;paper 0 1 99 1");
            p.sign(0);
            return p;
        };
        value(() -> Pen.of("office 99 200 2;clerk 0;paper 0 4 99 1"), 0, "ink", 99);
        value(() -> Pen.of("office 99 200 2;clerk 0;paper 0 4 99 1"), 0, "nib", 200);
        value(empty, 1, "ink", 0);
        value(empty, 1, "nib", 0);
        value(empty, 1, "begins", 9);
        c.about("Terms: way (minutes the pen goes to that CLERK): 0 to 20");
        String far = "office 9 9 0;clerk 0;clerk 20;clerk 20;paper 0 1 9 1;paper 1 1 9 1;paper 2 1 9 1";
        value(() -> Pen.of(far), 0, "way", 0);
        value(() -> Pen.of(far), 2, "way", 20);
        Supplier<Pen> there = () -> {
            Pen p = Pen.of(far);
            p.sign(1);
            return p;
        };
        value(there, 0, "way", 20);
        value(there, 2, "way", 0);
    }
}
