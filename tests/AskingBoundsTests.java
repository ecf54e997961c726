import java.util.function.Supplier;
import java.util.function.ToIntFunction;

/** Promises 15 to 25, by which nothing changes, and LOGS: each bound from both sides. */
public final class AskingBoundsTests {
    private static final Cases c = new Cases();

    private static final String SIX = "office 99 200 0;clerk 0;paper 0 1 99 1;paper 0 1 99 1;paper 0 1 99 1;paper 0 1 99 1;paper 0 1 99 1;"
        + "paper 0 1 99 1";
    private static final String FIVE = "office 99 200 0;clerk 0;paper 0 1 99 1;paper 0 1 99 1;paper 0 1 99 1;paper 0 1 99 1;paper 0 1 99 1";
    private static final String ONE = "office 99 200 0;clerk 0;paper 0 1 99 1";
    private static final String NONE = "office 9 9 0;clerk 0";
    private static final int MIN = Integer.MIN_VALUE;
    private static final int MAX = Integer.MAX_VALUE;

    public static void main(String[] args) {
        by();
        waits();
        plan();
        planOfSeveral();
        rings();
        blanks();
        second();
        keep();
        late();
        log();
        orders();
        ordersByLogs();
        look();
        nothingChanges();
        c.finish();
    }

    private static Pen after(Supplier<Pen> made, ToIntFunction<Pen> act) {
        Pen p = made.get();
        act.applyAsInt(p);
        return p;
    }

    private static Pen signed(String office, int... papers) {
        Pen p = Pen.of(office);
        for (int paper : papers) p.sign(paper);
        return p;
    }

    // ---- by rules

    private static void by() {
        c.about("15: BY what 0 to 8: (-2: so many there are not)");
        Pen six = Pen.of(SIX).with("sign 1");
        c.row("by of six", k -> six.by(0, k), 6, 6, 6, 0, 1, 2, 3, 4, 5, -3);
        Pen five = Pen.of(FIVE).with("sign 1");
        c.row("by of five", k -> five.by(0, k), 5, 5, 5, 0, 1, 2, 3, 4, -2, -3);
        Pen none = Pen.of(NONE).with("sign 1").pass(7);
        c.row("by of none", k -> none.by(0, k), 0, 7, 0, -2, -2, -2, -2, -2, -2, -3);
        Pen zero = Pen.of(SIX).with("sign 0").pass(7);
        c.row("by of a RULE that signs none", k -> zero.by(0, k), 0, 7, 0, -2, -2, -2, -2, -2, -2, -3);
        c.about("III: BY a RULE from now on; WORTH in time of all PAPERS then");
        Pen later = signed(SIX, 5, 0).with("sign 1").pass(3);
        c.row("by of four", k -> later.by(0, k), 6, 9, 4, 1, 2, 3, 4, -2, -2, -3);
        Pen all = signed(SIX, 0, 1, 2, 3, 4, 5).with("sign 1");
        c.row("by when all are signed", k -> all.by(0, k), 6, 6, 0, -2, -2, -2, -2, -2, -2, -3);
        c.about("15: -3 without these, or an OFFICE");
        Pen two = Pen.of(SIX).with("sign 1").with("sign 0");
        c.due("by(1, 2)", two.by(1, 2), 0);
        for (int rule : new int[] {-1, 2, 5, 6, MIN, MAX}) c.row("by(" + rule + ")", k -> two.by(rule, k), -3, -3, -3, -3, -3, -3, -3, -3, -3);
        for (int what : new int[] {-1, 9, MIN, MAX}) c.due("by(0, " + what + ")", two.by(0, what), -3);
        Pen rules = Pen.of(SIX).with("sign 1").with("sign 1").with("sign 1").with("sign 1").with("sign 1").with("sign 6-paper");
        c.due("by(5, 2) of six RULES", rules.by(5, 2), 6);
        c.due("by(6, 2) of six RULES", rules.by(6, 2), -3);
        c.due("by(0, 0) without a RULE", Pen.of(SIX).by(0, 0), -3);
        c.due("by(0, 0) without an OFFICE", new Pen().with("sign 1").by(0, 0), -3);
        c.about("BY A RULE: the PAPER not signed, that can be");
        Pen far = Pen.of("office 99 200 0;clerk 0;paper 0 3 0 1;paper 0 2 0 1;paper 0 1 0 1").with("sign strokes").pass(9996);
        c.row("till 9999", k -> far.by(0, k), 0, 9999, 1, 0, -2, -2);
        far.await(1);
        c.row("one minute later", k -> far.by(0, k), 0, 9999, 1, 1, -2, -2);
        far.await(1);
        c.row("two minutes later", k -> far.by(0, k), 0, 9999, 1, 2, -2, -2);
        far.await(1);
        c.row("three minutes later", k -> far.by(0, k), 0, 9999, 0, -2, -2, -2);
    }

    private static void waits() {
        String office = "office 99 200 0;clerk 0;clerk 5;clerk 9;paper 0 2 299 1;paper 1 3 299 1;paper 0 4 299 1";
        String[] rules = {"sign 10-paper", "sign 1 if paper=1", "sign 1 if paper=0", "sign 0", "sign 1+paper", "sign 1 if paper<2"};
        Supplier<Pen> made = () -> {
            Pen p = Pen.of(office);
            for (String r : rules) p.with(r);
            return p;
        };
        c.about("16: WAITS: till their last PAPER is signed, less STROKES of all these");
        // by RULE 0 the minutes are 2, 10 and 19; by RULE 4 they are 4, 12 and 19
        c.row("waits(0)", k -> made.get().waits(0, k), 13, 0, 0, 0, 13, 0);
        c.row("waits(1)", k -> made.get().waits(1, k), 7, 5, 0, 0, 9, 7);
        c.about("16: from now on, what is signed already is not asked");
        c.row("waits(0) at 6", k -> made.get().pass(6).waits(0, k), 13, 0, 0, 0, 13, 0);
        Pen later = after(made, p -> p.sign(0));
        // the minutes are 10 and 19; 6 and 14 by RULE 4
        c.row("waits(0)", k -> later.waits(0, k), 13, 0, 0, 0, 0, 0);
        c.row("waits(1)", k -> later.waits(1, k), 5, 5, 0, 0, 9, 5);
        c.about("16: (0: none of theirs is signed by it)");
        c.due("a CLERK without PAPERS", made.get().waits(2, 0), 0);
        c.due("a RULE that signs none", made.get().waits(0, 3), 0);
        c.due("a RULE that signs another one's", made.get().waits(0, 1), 0);
        c.due("all are signed", after(() -> after(made, p -> p.sign(0)), p -> p.sign(2)).waits(0, 0), 0);
        c.about("16: NONE without these");
        for (int clerk : new int[] {-1, 3, 4, MIN, MAX}) c.due("waits(" + clerk + ", 0)", made.get().waits(clerk, 0), -1);
        for (int rule : new int[] {-1, 6, MIN, MAX}) c.due("waits(0, " + rule + ")", made.get().waits(0, rule), -1);
        c.due("waits(0, 0) without a RULE", Pen.of(office).waits(0, 0), -1);
        c.due("waits(0, 1) of one RULE", Pen.of(office).with("sign 1").waits(0, 1), -1);
        c.due("waits(0, 0) without a CLERK", Pen.of("office 1 1 0").with("sign 1").waits(0, 0), -1);
    }

    // ---- plans

    private static void planIs(String what, Pen p, int... want) {
        c.row("plan of " + what, p::plan, want);
    }

    private static void plan() {
        c.about("17: PLAN what 0 to 8: (-2: so many there are not)");
        planIs("six", Pen.of(SIX), 6, 6, 0, 1, 2, 3, 4, 5, 0, -3);
        planIs("five", Pen.of(FIVE), 5, 5, 0, 1, 2, 3, 4, -2, 0, -3);
        planIs("one", Pen.of(ONE), 1, 1, 0, -2, -2, -2, -2, -2, 0, -3);
        planIs("no PAPERS", Pen.of(NONE).pass(3), 0, 3, -2, -2, -2, -2, -2, -2, 0, -3);
        planIs("no CLERKS", Pen.of("office 1 1 0").pass(3), 0, 3, -2, -2, -2, -2, -2, -2, 0, -3);
        c.about("17: -3 for others, or without an OFFICE");
        for (int what : new int[] {-1, 9, MIN, MAX}) c.due("plan(" + what + ")", Pen.of(SIX).plan(what), -3);
        c.row("plan without an OFFICE", k -> new Pen().plan(k), -3, -3, -3, -3, -3, -3, -3, -3, -3, -3);
        c.about("PLAN: of PAPERS not signed; WORTH of all PAPERS; LEFT OUT: PAPERS not signed");
        planIs("four", signed(SIX, 5, 0), 6, 6, 1, 2, 3, 4, -2, -2, 0);
        planIs("none left", signed(SIX, 0, 1, 2, 3, 4, 5), 6, 6, -2, -2, -2, -2, -2, -2, 0);
        c.about("PLAN: rows of PAPERS of any number, of none too");
        planIs("none in time", Pen.of(SIX).pass(99), 0, 99, -2, -2, -2, -2, -2, -2, 63);
        planIs("none that can be signed", Pen.of(SIX).pass(9999), 0, 9999, -2, -2, -2, -2, -2, -2, 63);
        planIs("one in time", Pen.of(SIX).pass(98), 1, 99, 0, -2, -2, -2, -2, -2, 62);
        planIs("none in time, one signed", signed(SIX, 2).pass(98), 1, 99, -2, -2, -2, -2, -2, -2, 59);
        planIs("what is signed and late", signed("office 99 200 0;clerk 0;paper 0 2 1 5;paper 0 1 3 7", 0), 7, 3, 1, -2, -2, -2, -2, -2, 0);
        c.about("PLAN: rows none of which would be VOID");
        planIs("the nib crosses", Pen.of("office 99 4 0;clerk 0;paper 0 5 99 9;paper 0 4 99 1"), 1, 4, 1, -2, -2, -2, -2, -2, 1);
        planIs("what it RESTS on first", Pen.of(ONE + ";paper 0 1 99 1;rests 0 1"), 2, 2, 1, 0, -2, -2, -2, -2, 0);
        planIs("on one that is late", Pen.of("office 99 200 0;clerk 0;paper 0 1 9 5;paper 0 1 0 1;rests 0 1"), 5, 2, 1, 0, -2, -2, -2, -2, 0);
        planIs("on each other", Pen.of(ONE + ";paper 0 1 99 1;rests 0 1;rests 1 0"), 0, 0, -2, -2, -2, -2, -2, -2, 3);
        planIs("one of them BLANK", after(() -> Pen.of(ONE + ";paper 0 1 99 1;rests 0 1;rests 1 0"), p -> p.blank(1)), 2, 2, 1, 0, -2, -2, -2, -2, 0);
        planIs("on a VOID one", signed(ONE + ";paper 0 1 99 1;rests 0 1;rests 1 0", 0), 0, 1, -2, -2, -2, -2, -2, -2, 2);
    }

    private static void planOfSeveral() {
        String pen = "office 99 200 0;clerk 0";
        c.about("PLAN: most WORTH in time");
        planIs("7 or 5 and 1", Pen.of(pen + ";paper 0 3 3 7;paper 0 1 1 5;paper 0 1 2 1"), 7, 3, 0, -2, -2, -2, -2, -2, 6);
        planIs("5 or 5 and 1", Pen.of(pen + ";paper 0 3 3 5;paper 0 1 1 5;paper 0 1 2 1"), 6, 2, 1, 2, -2, -2, -2, -2, 1);
        c.about("PLAN: of several the least minute at the end");
        planIs("3 ahead of 4", Pen.of(pen + ";paper 0 4 4 5;paper 0 3 4 5"), 5, 3, 1, -2, -2, -2, -2, -2, 1);
        planIs("4 and 4", Pen.of(pen + ";paper 0 4 4 5;paper 0 4 4 5"), 5, 4, 0, -2, -2, -2, -2, -2, 2);
        planIs("two that are one", Pen.of(pen + ";paper 0 4 4 6;paper 0 2 4 3;paper 0 1 4 3"), 6, 3, 1, 2, -2, -2, -2, -2, 1);
        planIs("the shorter way", Pen.of(pen + ";clerk 4;clerk 1;paper 1 1 99 1;paper 2 1 99 1"), 2, 6, 1, 0, -2, -2, -2, -2, 0);
        c.about("PLAN: then the first, by numbers");
        planIs("all rows alike", Pen.of(pen + ";paper 0 1 99 3;paper 0 1 99 3;paper 0 1 99 3"), 9, 3, 0, 1, 2, -2, -2, -2, 0);
        planIs("three pairs alike", Pen.of(pen + ";paper 0 1 2 3;paper 0 1 2 3;paper 0 1 2 3"), 6, 2, 0, 1, -2, -2, -2, -2, 4);
        planIs("2 must be first", Pen.of(pen + ";paper 0 1 3 3;paper 0 1 3 3;paper 0 1 1 3"), 9, 3, 2, 0, 1, -2, -2, -2, 0);
    }

    // ---- rings

    private static final String ALL_ON_ALL = "office1 1 0;clerk0;paper0 1 0 1;paper0 1 0 1;paper0 1 0 1;paper0 1 0 1;paper0 1 0 1;paper0 1 0 1"
        + ";rests0 1;rests0 2;rests0 3;rests0 4;rests0 5;rests1 0;rests1 2;rests1 3;rests1 4;rests1 5;rests2 0;rests2 1;rests2 3;rests2 4;rests2 5"
        + ";rests3 0;rests3 1;rests3 2;rests3 4;rests3 5;rests4 0;rests4 1;rests4 2;rests4 3;rests4 5;rests5 0;rests5 1;rests5 2;rests5 3;rests5 4";

    private static void rings() {
        c.about("18: RINGS: PAPERS that REST, one by one, on themselves");
        c.due("none", Pen.of(SIX).rings(), 0);
        c.due("a row of six", Pen.of(SIX + ";rests 0 1;rests 1 2;rests 2 3;rests 3 4;rests 4 5").rings(), 0);
        c.due("closed", Pen.of(SIX + ";rests 0 1;rests 1 2;rests 2 3;rests 3 4;rests 4 5;rests 5 0").rings(), 63);
        c.due("closed in another order", Pen.of(SIX + ";rests 0 5;rests 5 1;rests 1 4;rests 4 2;rests 2 3;rests 3 0").rings(), 63);
        c.due("two", Pen.of(SIX + ";rests 0 1;rests 1 0").rings(), 3);
        c.due("one that RESTS on a ring, one on which it RESTS", Pen.of(SIX + ";rests 0 1;rests 1 0;rests 2 0;rests 1 3").rings(), 3);
        c.due("two rings", Pen.of(SIX + ";rests 0 5;rests 5 0;rests 2 3;rests 3 4;rests 4 2").rings(), 61);
        c.due("all on all", Pen.of(ALL_ON_ALL).rings(), 63);
        c.due("two on one", Pen.of(SIX + ";rests 0 2;rests 1 2;rests 0 1").rings(), 0);
        c.about("18: RINGS: PAPERS, signed or not");
        String ring = SIX + ";rests 0 1;rests 1 0";
        c.due("one signed", signed(ring, 0).rings(), 3);
        c.due("both signed", signed(ring, 0, 1).rings(), 3);
        c.due("one BLANK", after(() -> Pen.of(ring), p -> p.blank(0)).rings(), 3);
        c.about("18: NONE without an OFFICE");
        c.due("rings()", new Pen().rings(), -1);
        c.due("without PAPERS", Pen.of(NONE).rings(), 0);
        c.due("without a CLERK", Pen.of("office 1 1 0").rings(), 0);
    }

    private static void blanksAre(String what, Pen p, int set, int many) {
        c.due("blanks(0) of " + what, p.blanks(0), set);
        c.due("blanks(1) of " + what, p.blanks(1), many);
    }

    private static void blanks() {
        c.about("19: BLANKS: the fewest PAPERS");
        blanksAre("none", Pen.of(SIX), 0, 0);
        blanksAre("a row", Pen.of(SIX + ";rests 0 1;rests 1 2;rests 2 3"), 0, 0);
        blanksAre("a ring of six", Pen.of(SIX + ";rests 0 1;rests 1 2;rests 2 3;rests 3 4;rests 4 5;rests 5 0"), 1, 1);
        blanksAre("three rings of two", Pen.of(SIX + ";rests 0 1;rests 1 0;rests 2 3;rests 3 2;rests 4 5;rests 5 4"), 21, 3);
        blanksAre("three rings on 5", Pen.of(SIX + ";rests 0 5;rests 5 0;rests 1 5;rests 5 1;rests 2 5;rests 5 2"), 32, 1);
        blanksAre("all on all", Pen.of(ALL_ON_ALL), 31, 5);
        c.about("19: BLANKS: of several sets the least as bits");
        blanksAre("a ring of 4 and 5", Pen.of(SIX + ";rests 4 5;rests 5 4"), 16, 1);
        blanksAre("rings of 0 5 and 1 2", Pen.of(SIX + ";rests 0 5;rests 5 0;rests 1 2;rests 2 1"), 3, 2);
        blanksAre("two rings that meet in 1 and 2", Pen.of(SIX + ";rests 0 1;rests 1 2;rests 2 0;rests 2 1"), 2, 1);
        c.about("19: BLANKS: PAPERS not signed and not BLANK");
        String two = SIX + ";rests 0 1;rests 1 0;rests 2 3;rests 3 2";
        blanksAre("two rings", Pen.of(two), 5, 2);
        blanksAre("one signed", signed(two, 1), 4, 1);
        blanksAre("one BLANK", after(() -> Pen.of(two), p -> p.blank(1)), 4, 1);
        blanksAre("one signed, one BLANK", after(() -> signed(two, 1), p -> p.blank(2)), 0, 0);
        blanksAre("all signed", signed(two, 0, 1, 2, 3, 4, 5), 0, 0);
        blanksAre("over a signed one", signed(SIX + ";rests 0 1;rests 1 2;rests 2 0", 1), 0, 0);
        c.about("19: NONE for others, or without an OFFICE");
        for (int what : new int[] {-1, 2, MIN, MAX}) c.due("blanks(" + what + ")", Pen.of(two).blanks(what), -1);
        c.row("blanks without an OFFICE", k -> new Pen().blanks(k), -1, -1, -1);
        blanksAre("no PAPERS", Pen.of(NONE), 0, 0);
    }

    // ---- a second pen, a clerk to keep, the least that is late

    private static void second() {
        String two = "office 99 200 0;clerk 0;clerk 20;paper 0 5 5 10;paper 1 5 5 7";
        c.about("20: SECOND; -1000 without that CLERK");
        c.row("second of two CLERKS", k -> Pen.of(two).second(k), 0, 7, -1000, -1000, -1000);
        for (int clerk : new int[] {-1, 4, MIN, MAX}) c.due("second(" + clerk + ")", Pen.of(two).second(clerk), -1000);
        c.due("second(0) without an OFFICE", new Pen().second(0), -1000);
        c.due("second(0) without a CLERK", Pen.of("office 1 1 0").second(0), -1000);
        Pen four = Pen.of("office 99 200 0;clerk 0;clerk 0;clerk 0;clerk 0;paper 0 1 1 1;paper 3 1 1 4");
        c.row("second of four CLERKS", four::second, 1, 0, 0, 1, -1000);
        c.about("SECOND: a second pen, at their SEAT from now on");
        String far = "office 5 5 9;clerk 0;clerk 7;paper 1 5 12 8";
        int[][] gains = {{0, 0}, {1, 8}, {7, 8}, {8, 0}};
        for (int[] g : gains) c.due("second(1) at " + g[0], Pen.of(far).pass(g[0]).second(1), g[1]);
        c.about("SECOND: full and new");
        c.due("the first has no ink", signed("office 5 20 9;clerk 0;clerk 0;paper 0 5 9 1;paper 1 5 10 8", 0).second(1), 8);
        c.due("the first has ink", signed("office 10 20 9;clerk 0;clerk 0;paper 0 5 9 1;paper 1 5 10 8", 0).second(1), 0);
        c.due("the first has no nib", signed("office 20 5 9;clerk 0;clerk 0;paper 0 5 9 1;paper 1 5 12 8", 0).second(1), 8);
        c.due("the first has a nib", signed("office 20 10 9;clerk 0;clerk 0;paper 0 5 9 1;paper 1 5 12 8", 0).second(1), 0);
        c.about("SECOND: what RESTS on PAPERS of the other pen is not asked");
        c.due("theirs on the others'", Pen.of(two + ";rests 1 0").second(1), 7);
        c.due("the others' on theirs", Pen.of(two + ";rests 0 1").second(1), 17);
        String own = "office 99 200 0;clerk 0;clerk 20;paper 1 1 1 5;paper 1 1 1 6;rests 1 0";
        c.due("theirs on theirs", Pen.of(own).second(1), 5);
        c.due("all are theirs", Pen.of("office 9 9 0;clerk 0;paper 0 1 9 5").second(0), 0);
        c.about("SECOND: what is signed already counts on both sides");
        c.due("theirs is signed", signed(two, 0).second(0), 0);
        c.due("the others' is signed", signed(two, 0).second(1), 0);
        c.due("nothing is left", signed(two, 0, 1).second(1), 0);
    }

    private static void keep() {
        c.about("21: KEEP: the CLERK by whom PLAN would lose most; of several the least");
        String clerks = "office 99 200 0;clerk 0;clerk 0;clerk 0;clerk 0";
        Pen p = Pen.of(clerks + ";paper 3 1 99 5;paper 2 1 99 4;paper 1 1 99 5");
        c.row("keep", p::keep, 1, 5, -1);
        c.row("keep of the last", Pen.of(clerks + ";paper 3 1 99 5;paper 2 1 99 4")::keep, 3, 5);
        c.row("keep, none loses", Pen.of(clerks + ";paper 3 1 0 5")::keep, 0, 0);
        c.row("keep, no PAPERS", Pen.of(clerks)::keep, 0, 0);
        c.row("keep, nothing left", signed(clerks + ";paper 3 1 99 5", 0)::keep, 0, 0);
        c.row("keep, what RESTS on theirs", Pen.of(clerks + ";paper 3 1 99 5;paper 2 1 99 1;rests 0 1")::keep, 2, 6);
        c.row("keep, one in place of another", Pen.of(clerks + ";paper 3 2 2 5;paper 2 2 2 4")::keep, 3, 1);
        c.about("21: what is signed is not lost");
        c.row("keep", signed(clerks + ";paper 3 1 99 5;paper 2 1 99 1", 0)::keep, 2, 1);
        c.about("21: (-2: there is no CLERK)");
        c.row("keep of none", Pen.of("office 1 1 0")::keep, -2, -2, -1);
        c.row("keep of one", Pen.of("office 1 1 0;clerk 0")::keep, 0, 0, -1);
        c.about("21: NONE for others, or without an OFFICE");
        for (int what : new int[] {-1, 2, MIN, MAX}) {
            c.due("keep(" + what + ")", p.keep(what), -1);
            c.due("keep(" + what + ") without a CLERK", Pen.of("office 1 1 0").keep(what), -1);
        }
        c.row("keep without an OFFICE", k -> new Pen().keep(k), -1, -1, -1);
    }

    private static void late() {
        c.about("22: LATE; (none is to be signed: 0)");
        c.due("no PAPERS", Pen.of(NONE).late(), 0);
        c.due("no PAPERS at 9999", Pen.of(NONE).pass(9999).late(), 0);
        c.due("all signed", signed(ONE, 0).late(), 0);
        c.due("all signed, at 9999", signed(ONE, 0).pass(9998).late(), 0);
        c.due("signed and late", signed("office 99 200 0;clerk 0;paper 0 2 1 5", 0).late(), 0);
        c.about("22: NONE without an OFFICE");
        c.due("late()", new Pen().late(), -1);
        c.due("without a CLERK", Pen.of("office 1 1 0").late(), 0);
        c.about("LATE: the least sum of WORTH of these that are not in time");
        c.due("all in time", Pen.of("office 99 200 0;clerk 0;paper 0 2 5 5;paper 0 3 5 7").late(), 0);
        c.due("one of them not", Pen.of("office 99 200 0;clerk 0;paper 0 2 4 5;paper 0 3 4 7").late(), 5);
        c.due("both not", Pen.of("office 99 200 0;clerk 0;paper 0 2 1 5;paper 0 3 2 7").late(), 12);
        c.due("six, none in time", Pen.of(SIX).pass(99).late(), 6);
        c.due("six, one in time", Pen.of(SIX).pass(98).late(), 5);
        c.about("LATE: (VOID ones are not in time)");
        c.due("a ring", Pen.of(ONE + ";paper 0 1 99 7;rests 0 1;rests 1 0").late(), 8);
        c.due("a ring, one BLANK", after(() -> Pen.of(ONE + ";paper 0 1 99 7;rests 0 1;rests 1 0"), p -> p.blank(1)).late(), 0);
        c.due("the nib crosses", Pen.of("office 99 4 0;clerk 0;paper 0 5 99 9;paper 0 4 99 1").late(), 9);
        c.about("LATE: -2: there is no row in which each can be signed");
        String two = "office 99 200 0;clerk 0;paper 0 10 0 1;paper 0 9 0 2";
        c.due("till 9999", Pen.of(two).pass(9980).late(), 3);
        c.due("till 10000", Pen.of(two).pass(9981).late(), -2);
        String way = "office 99 200 0;clerk 0;clerk 10;paper 1 1 0 1;paper 0 1 0 2";
        // 0 last is 12 minutes, 0 first 22
        c.due("one of two rows", Pen.of(way).pass(9987).late(), 3);
        c.due("none of two rows", Pen.of(way).pass(9988).late(), -2);
    }

    // ---- an earlier day

    private static void log() {
        c.about("23: A LOG: how many; LOGS 0 to 9");
        Pen p = Pen.of(SIX);
        for (int k = 1; k <= 10; k++) {
            c.due("log " + k, p.log(2, 0, 0), k);
            c.due("count(13)", p.count(13), k);
        }
        c.due("an eleventh", p.log(2, 0, 0), -2);
        c.about("23: -2, and nothing happens, if there are 10");
        Supplier<Pen> ten = () -> {
            Pen q = Pen.of(SIX);
            for (int k = 0; k < 10; k++) q.log(0, 4, 5);
            return q;
        };
        c.refused("log(0, 1, 0) of ten", ten, q -> q.log(0, 1, 0), -2);
        c.refused("log(1, 1, 0) of ten", ten, q -> q.log(1, 1, 0), -2);
        c.refused("log(2, 1, 0) of ten", ten, q -> q.log(2, 1, 0), -2);
        c.about("23: what NONE: there are none then, 0");
        Pen empty = ten.get();
        c.due("log(NONE) of ten", empty.log(-1, MIN, MAX), 0);
        c.due("count(13)", empty.count(13), 0);
        c.due("orders(0)", empty.orders(0), 720);
        c.due("log(NONE) of none", empty.log(-1, 0, 0), 0);
        for (int k = 1; k <= 10; k++) c.due("log " + k, empty.log(0, 1, 0), k);
        c.due("an eleventh", empty.log(0, 1, 0), -2);
        c.due("without an OFFICE", new Pen().log(-1, 0, 0), 0);
        c.about("23: -2, and nothing happens, without these: what");
        for (int what : new int[] {-2, 3, MIN, MAX}) c.refused("log(" + what + ", 0, 1)", () -> Pen.of(SIX), q -> q.log(what, 0, 1), -2);
        c.about("23: of what 0 one, other unlike");
        c.due("log(0, 5, 0)", Pen.of(SIX).log(0, 5, 0), 1);
        c.due("log(0, 0, 5)", Pen.of(SIX).log(0, 0, 5), 1);
        int[][] not = {{0, 0}, {5, 5}, {6, 0}, {0, 6}, {-1, 0}, {0, -1}, {MIN, 0}, {0, MAX}, {32, 0}};
        for (int[] n : not) c.refused("log(0, " + n[0] + ", " + n[1] + ")", () -> Pen.of(SIX), q -> q.log(0, n[0], n[1]), -2);
        c.refused("log(0, 0, 0) of one PAPER", () -> Pen.of(ONE), q -> q.log(0, 0, 0), -2);
        c.about("23: of 1 other is k, 0 to how many PAPERS there are less 1");
        for (int papers = 1; papers <= 6; papers++) {
            String office = NONE + ";paper 0 1 9 1".repeat(papers);
            int n = papers;
            c.due("log(1, 0, 0) of " + n, Pen.of(office).log(1, 0, 0), 1);
            c.due("log(1, n-1, n-1) of " + n, Pen.of(office).log(1, n - 1, n - 1), 1);
            c.refused("log(1, 0, n) of " + n, () -> Pen.of(office), q -> q.log(1, 0, n), -2);
            c.refused("log(1, n, 0) of " + n, () -> Pen.of(office), q -> q.log(1, n, 0), -2);
            c.refused("log(1, 0, -1) of " + n, () -> Pen.of(office), q -> q.log(1, 0, -1), -2);
        }
        for (int v : new int[] {MIN, MAX, 32}) {
            c.refused("log(1, 0, " + v + ")", () -> Pen.of(SIX), q -> q.log(1, 0, v), -2);
            c.refused("log(1, " + v + ", 0)", () -> Pen.of(SIX), q -> q.log(1, v, 0), -2);
        }
        c.about("23: of 2 other is STROKES (0 to 99)");
        c.due("log(2, 5, 0)", Pen.of(SIX).log(2, 5, 0), 1);
        c.due("log(2, 0, 99)", Pen.of(SIX).log(2, 0, 99), 1);
        for (int v : new int[] {-1, 100, MIN, MAX}) c.refused("log(2, 0, " + v + ")", () -> Pen.of(SIX), q -> q.log(2, 0, v), -2);
        for (int v : new int[] {-1, 6, MIN, MAX}) c.refused("log(2, " + v + ", 0)", () -> Pen.of(SIX), q -> q.log(2, v, 0), -2);
        c.about("23: without PAPERS there is none to be told of");
        for (int what = 0; what < 3; what++) {
            int w = what;
            c.refused("log(" + w + ", 0, 0)", () -> Pen.of(NONE), q -> q.log(w, 0, 0), -2);
            c.refused("log(" + w + ", 0, 1)", () -> Pen.of(NONE), q -> q.log(w, 0, 1), -2);
        }
    }

    private static Pen logs(String office, int... threes) {
        Pen p = Pen.of(office);
        for (int k = 0; k + 2 < threes.length; k += 3) p.log(threes[k], threes[k + 1], threes[k + 2]);
        return p;
    }

    private static void ordersAre(String what, Pen p, int... want) {
        c.row("orders of " + what, p::orders, want);
    }

    private static void orders() {
        c.about("24: ORDERS: rows of all PAPERS: how many, the first, what can have been the k-th; (so many PAPERS there are not: -2)");
        ordersAre("six", Pen.of(SIX), 720, 0, 1, 2, 3, 4, 5, 63, 63, 63, 63, 63, 63, -3);
        ordersAre("five", Pen.of(FIVE), 120, 0, 1, 2, 3, 4, -2, 31, 31, 31, 31, 31, -2, -3);
        ordersAre("two", Pen.of(ONE + ";paper 0 1 9 1"), 2, 0, 1, -2, -2, -2, -2, 3, 3, -2, -2, -2, -2, -3);
        ordersAre("one", Pen.of(ONE), 1, 0, -2, -2, -2, -2, -2, 1, -2, -2, -2, -2, -2, -3);
        ordersAre("none", Pen.of(NONE), 1, -2, -2, -2, -2, -2, -2, -2, -2, -2, -2, -2, -2, -3);
        ordersAre("six that are signed", signed(SIX, 5, 4, 3), 720, 0, 1, 2, 3, 4, 5, 63, 63, 63, 63, 63, 63, -3);
        c.about("24: (there is no row: -2)");
        Pen no = logs(ONE + ";paper 0 1 9 1", 0, 0, 1, 0, 1, 0);
        ordersAre("two that can't be", no, 0, -2, -2, -2, -2, -2, -2, -2, -2, -2, -2, -2, -2, -3);
        no.log(-1, 0, 0);
        c.due("orders(0) without LOGS", no.orders(0), 2);
        c.about("24: -3 for others, or without an OFFICE");
        for (int what : new int[] {-1, 13, MIN, MAX}) c.due("orders(" + what + ")", Pen.of(SIX).orders(what), -3);
        c.row("orders without an OFFICE", k -> new Pen().orders(k), -3, -3, -3, -3, -3, -3, -3, -3, -3, -3, -3, -3, -3);
    }

    private static void ordersByLogs() {
        c.about("LOGS: what 0: a PAPER was signed ahead of another one");
        ordersAre("5 ahead of 0", logs(SIX, 0, 5, 0), 360, 1, 2, 3, 4, 5, 0, 62, 63, 63, 63, 63, 31);
        ordersAre("backwards", logs(SIX, 0, 5, 4, 0, 4, 3, 0, 3, 2, 0, 2, 1, 0, 1, 0), 1, 5, 4, 3, 2, 1, 0, 32, 16, 8, 4, 2, 1);
        c.about("LOGS: 1: a PAPER was the k-th (0 and on)");
        ordersAre("0 the last", logs(SIX, 1, 0, 5), 120, 1, 2, 3, 4, 5, 0, 62, 62, 62, 62, 62, 1);
        ordersAre("5 the first", logs(SIX, 1, 5, 0), 120, 5, 0, 1, 2, 3, 4, 32, 31, 31, 31, 31, 31);
        c.due("one PAPER twice", logs(SIX, 1, 5, 0, 1, 5, 1).orders(0), 0);
        c.due("two PAPERS in one place", logs(SIX, 1, 5, 0, 1, 4, 0).orders(0), 0);
        c.about("LOGS: 2: ahead of a PAPER so many STROKES had been written that day (0 to 99)");
        String long6 = "office 99 200 0;clerk 0;paper 0 20 99 1;paper 0 20 99 1;paper 0 20 99 1;paper 0 20 99 1;paper 0 19 99 1;paper 0 20 99 1";
        ordersAre("99 ahead of 5", logs(long6, 2, 5, 99), 120, 0, 1, 2, 3, 4, 5, 31, 31, 31, 31, 31, 32);
        c.due("98 ahead of 5", logs(long6, 2, 5, 98).orders(0), 0);
        c.due("99 ahead of 4", logs(long6, 2, 4, 99).orders(0), 0);
        // 4 is the first or the last of the others
        ordersAre("0 ahead of 4", logs(long6, 2, 4, 0), 120, 4, 0, 1, 2, 3, 5, 16, 47, 47, 47, 47, 47);
        ordersAre("19 ahead of 5", logs(long6, 2, 5, 19), 24, 4, 5, 0, 1, 2, 3, 16, 32, 15, 15, 15, 15);
        ordersAre("20 ahead of 5", logs(long6, 2, 5, 20), 96, 0, 5, 1, 2, 3, 4, 15, 32, 31, 31, 31, 31);
        c.about("LOGS: all of them are so, the tenth too");
        Pen ten = logs(SIX, 2, 0, 0, 2, 0, 0, 2, 0, 0, 2, 0, 0, 2, 0, 0, 2, 0, 0, 2, 0, 0, 2, 0, 0, 2, 0, 0, 1, 5, 5);
        ordersAre("ten", ten, 24, 0, 1, 2, 3, 4, 5, 1, 30, 30, 30, 30, 32);
        ten.log(1, 4, 1);
        c.due("an eleventh is none", ten.orders(0), 24);
    }

    private static void look() {
        c.about("25: LOOK: the k by whose PAPER these part best; of several the least; how many");
        c.row("look of six", Pen.of(SIX)::look, 0, 120, -1);
        c.row("look of one", Pen.of(ONE)::look, 0, 1, -1);
        c.row("look of one row", logs(ONE + ";paper 0 1 9 1", 0, 1, 0)::look, 0, 1, -1);
        String three = ONE + ";paper 0 1 9 1;paper 0 1 9 1";
        // 0 1 2 and 0 2 1
        c.row("look when the first is known", logs(three, 1, 0, 0)::look, 1, 1);
        // 0 1 2, 0 2 1, 2 0 1
        c.row("look when 0 is ahead of 1", logs(three, 0, 0, 1)::look, 1, 1);
        String four = three + ";paper 0 1 9 1";
        c.row("look when two are known", logs(four, 1, 0, 0, 1, 1, 1)::look, 2, 1);
        c.row("look when the last is known", logs(four, 1, 3, 3)::look, 0, 2);
        c.about("25: -2: there is no row, or there are no PAPERS");
        c.row("look of no row", logs(three, 0, 0, 1, 0, 1, 0)::look, -2, -2, -1);
        c.row("look of no PAPERS", Pen.of(NONE)::look, -2, -2, -1);
        c.row("look of no CLERKS", Pen.of("office 1 1 0")::look, -2, -2, -1);
        c.about("25: NONE for others, or without an OFFICE");
        for (int what : new int[] {-1, 2, MIN, MAX}) {
            c.due("look(" + what + ")", Pen.of(SIX).look(what), -1);
            c.due("look(" + what + ") of no PAPERS", Pen.of(NONE).look(what), -1);
        }
        c.row("look without an OFFICE", k -> new Pen().look(k), -1, -1, -1);
    }

    private static void nothingChanges() {
        Supplier<Pen> made = () -> {
            Pen p = Pen.of("office 9 9 2;clerk 0;clerk 4;paper 0 3 20 4;paper 1 5 30 7;paper 0 4 40 5;paper 1 2 50 6;rests 1 0;rests 2 3;rests 3 2");
            p.with("sign worth").pass(2);
            p.blank(2);
            p.sign(0);
            p.log(0, 1, 0);
            p.image(1);
            return p;
        };
        c.about("III: (By what is asked nothing changes.)");
        // 1 till 14; filled, its nib changed, 3 till 21, VOID; 2, which is BLANK, till 29
        c.unchanged("by(0, 0)", made, p -> p.by(0, 0), 16);
        c.unchanged("by(0, 1)", made, p -> p.by(0, 1), 29);
        c.unchanged("waits(1, 0)", made, p -> p.waits(1, 0), 21 - 5 - 7);
        c.unchanged("plan(0)", made, p -> p.plan(0), 22);
        c.unchanged("rings()", made, Pen::rings, 12);
        c.unchanged("blanks(0)", made, p -> p.blanks(0), 0);
        c.unchanged("second(1)", made, p -> p.second(1), 0);
        c.unchanged("keep(0)", made, p -> p.keep(0), 1);
        c.unchanged("late()", made, Pen::late, 0);
        c.unchanged("orders(0)", made, p -> p.orders(0), 12);
        c.unchanged("look(0)", made, p -> p.look(0), 1);
        c.unchanged("days(1, 0)", made, p -> p.days(1, 0), 22);
        c.unchanged("count(12)", made, p -> p.count(12), 4);
        c.unchanged("paper(0, 4)", made, p -> p.paper(0, 4), 5);
        c.unchanged("clerk(1, 3)", made, p -> p.clerk(1, 3), 10);
        c.about("III: nor for the ACTS that come then");
        Supplier<Pen> asked = () -> {
            Pen p = made.get();
            p.when(1, 0);
            p.by(0, 0);
            p.waits(1, 0);
            p.plan(0);
            p.second(1);
            p.keep(0);
            p.late();
            p.days(3, 1);
            return p;
        };
        c.alike("filling()", () -> after(asked, Pen::filling), () -> after(made, Pen::filling));
        c.alike("change()", () -> after(asked, Pen::change), () -> after(made, Pen::change));
        c.alike("await(1)", () -> after(asked, p -> p.await(1)), () -> after(made, p -> p.await(1)));
        c.alike("blank(1)", () -> after(asked, p -> p.blank(1)), () -> after(made, p -> p.blank(1)));
        c.alike("sign(3)", () -> after(asked, p -> p.sign(3)), () -> after(made, p -> p.sign(3)));
        c.alike("undo()", () -> after(asked, Pen::undo), () -> after(made, Pen::undo));
        c.alike("image(2)", () -> after(asked, p -> p.image(2)), () -> after(made, p -> p.image(2)));
        c.alike("back(1)", () -> after(asked, p -> p.back(1)), () -> after(made, p -> p.back(1)));
    }
}
