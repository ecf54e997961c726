import java.math.BigInteger;
import java.util.function.ToIntFunction;

/** Promises 1 to 4 and what 'Terms' says of an OFFICE: each bound from both sides. */
public final class OfficeBoundsTests {
    private static final Cases c = new Cases();

    private static final String PEN = "office 1 1 0";
    private static final String CLERK = PEN + ";clerk 0";
    private static final String PAPER = CLERK + ";paper 0 1 0 1";
    /** Four CLAUSES, 44 bytes. */
    private static final String TWO = "office1 1 0;clerk0;paper0 1 0 1;paper0 1 0 1";
    private static final String SOME = "office 9 20 2;clerk 3;clerk 5;away 1 4 6;paper 0 3 9 4;paper 1 2 30 5;rests 1 0";

    public static void main(String[] args) {
        newObject();
        feed();
        end();
        office();
        penBounds();
        clerkBounds();
        awayBounds();
        paperBounds();
        restsBounds();
        howMany();
        theTextsLength();
        bytes();
        faultPlaces();
        c.finish();
    }

    /** The text without its @ has its first FAULT where the @ stands, and nothing is told then. */
    private static void fault(String marked, int code) {
        int place = marked.indexOf('@');
        Pen p = new Pen().tell(marked.replace("@", ""));
        c.due("office() of '" + marked + "'", p.office(), -2 - (1 + 8 * place + code));
        c.due("count(16) behind it", p.count(16), 0);
        c.due("plan(0) behind it", p.plan(0), -3);
    }

    private static Pen taken(String office, int papers) {
        Pen p = new Pen().tell(office);
        c.due("office() of '" + office + "'", p.office(), papers);
        return p;
    }

    /** A NUMBER between these halves: the least and the greatest are taken, what is beside them is a FAULT at its first byte. */
    private static void bounds(String ahead, int least, int greatest, String behind, int papers, ToIntFunction<Pen> value) {
        if (least > 0) fault(ahead + "@" + (least - 1) + behind, 1);
        c.due("the least of " + ahead, value.applyAsInt(taken(ahead + least + behind, papers)), least);
        c.due("the greatest of " + ahead, value.applyAsInt(taken(ahead + greatest + behind, papers)), greatest);
        fault(ahead + "@" + (greatest + 1) + behind, 1);
        fault(ahead + "@99999" + behind, 1);
        String five = String.format("%05d", greatest);
        c.due("five digits of " + ahead, value.applyAsInt(taken(ahead + five + behind, papers)), greatest);
        fault(ahead + "@0" + five + behind, 1);
        // what could be taken, if it went round in 32 or in 64 bits
        fault(ahead + "@" + BigInteger.ONE.shiftLeft(32).add(BigInteger.valueOf(greatest)) + behind, 1);
        fault(ahead + "@" + BigInteger.ONE.shiftLeft(64).add(BigInteger.valueOf(greatest)) + behind, 1);
        // no NUMBER stands there
        fault(ahead + "@-" + greatest + behind, 0);
        fault(ahead + "@x" + behind, 0);
        fault(ahead + "@;" + behind, 0);
    }

    private static String times(int n, String text) {
        return text.repeat(n);
    }

    // ---- promises 1 to 3

    private static void newObject() {
        c.about("1: No OFFICE, no RULES");
        c.row("count", k -> new Pen().count(k), 0, 0, 0, 0, 0, 0, 0, 0, -1, 0, 0, 0, 0, 0, 0, 0, 0, -1);
        Pen p = new Pen();
        c.due("paper(0, 0)", p.paper(0, 0), -2);
        c.due("clerk(0, 0)", p.clerk(0, 0), -1);
        c.due("when(0, 0)", p.when(0, 0), -3);
        c.due("by(0, 0)", p.by(0, 0), -3);
        c.due("waits(0, 0)", p.waits(0, 0), -1);
        c.row("plan", p::plan, -3, -3, -3, -3, -3, -3, -3, -3, -3);
        c.due("rings()", p.rings(), -1);
        c.row("blanks", p::blanks, -1, -1);
        c.due("second(0)", p.second(0), -1000);
        c.row("keep", p::keep, -1, -1);
        c.due("late()", p.late(), -1);
        c.row("orders", p::orders, -3, -3, -3, -3, -3, -3, -3, -3, -3, -3, -3, -3, -3);
        c.row("look", p::look, -1, -1);
        c.due("days(1, 0)", p.days(1, 0), -1);
        c.due("days(1, 1)", p.days(1, 1), -1);

        c.about("1: what can't be without an OFFICE leaves all as it is");
        c.refused("sign(0)", Pen::new, x -> x.sign(0), -1);
        c.refused("blank(0)", Pen::new, x -> x.blank(0), -1);
        c.refused("await(1)", Pen::new, x -> x.await(1), -1);
        c.refused("filling()", Pen::new, Pen::filling, -1);
        c.refused("change()", Pen::new, Pen::change, -1);
        c.refused("undo()", Pen::new, Pen::undo, -1);
        c.refused("log(0, 0, 1)", Pen::new, x -> x.log(0, 0, 1), -2);
        c.refused("log(1, 0, 0)", Pen::new, x -> x.log(1, 0, 0), -2);
        c.refused("log(2, 0, 0)", Pen::new, x -> x.log(2, 0, 0), -2);
        c.refused("back(0)", Pen::new, x -> x.back(0), -1);

        c.about("15, 16: without an OFFICE a RULE signs nothing");
        Pen r = new Pen().with("sign 1");
        c.row("by", k -> r.by(0, k), -3, -3, -3, -3, -3, -3, -3, -3, -3);
        c.due("waits(0, 0)", r.waits(0, 0), -1);
        c.due("count(6)", r.count(6), 1);
    }

    private static void feed() {
        c.about("2: Twenty bytes come behind the TAPE, of each number the highest first");
        for (int at = 0; at < 20; at++) {
            int[] n = {0x20202020, 0x20202020, 0x20202020, 0x20202020, 0x20202020};
            n[at / 4] = n[at / 4] & ~(255 << 24 - 8 * (at % 4)) | 120 << 24 - 8 * (at % 4);
            Pen p = new Pen();
            c.due("feed() of an x at " + at, p.feed(n[0], n[1], n[2], n[3], n[4]), 20);
            c.due("rule() of an x at " + at, p.rule(), -2 - (1 + 8 * at));
            p.feed(0x20202020, 0x20202020, 0x20202020, 0x20202020, 0x20202020);
            p.feed(n[0], n[1], n[2], n[3], n[4]);
            c.due("rule() of an x at " + (20 + at), p.rule(), -2 - (1 + 8 * (20 + at)));
        }
        Pen q = new Pen();
        c.due("feed() of numbers below 0", q.feed(-1, Integer.MIN_VALUE, Integer.MAX_VALUE, -2, 0), 20);
        c.due("rule() of the byte 255", q.rule(), -3);

        c.about("2: NONE, and none comes, if it would have more than 400");
        Pen full = new Pen();
        for (int k = 1; k <= 20; k++) c.due("feed " + k, full.feed(0x20202020, 0, 0, 0, 0), 20 * k);
        c.due("count(16)", full.count(16), 400);
        c.due("feed at 400", full.feed(1, 2, 3, 4, 5), -1);
        c.due("end(381)", full.end(381), 381);
        c.due("feed at 381", full.feed(1, 2, 3, 4, 5), -1);
        c.due("count(16)", full.count(16), 381);
        c.due("end(380)", full.end(380), 380);
        c.due("feed at 380", full.feed(1, 2, 3, 4, 5), 400);
        c.due("feed at 400", full.feed(1, 2, 3, 4, 5), -1);
        c.refused("feed at 381", () -> new Pen().tell(PEN + times(369, " ")), x -> x.feed(0x3b3b3b3b, 0, 0, 0, 0), -1);
        c.refused("feed at 400", () -> new Pen().tell(PEN + times(388, " ")), x -> x.feed(0x3b3b3b3b, 0, 0, 0, 0), -1);
        Pen one = new Pen();
        one.feed(0x3b3b3b3b, 0, 0, 0, 0);
        one.end(1);
        c.due("feed at 1", one.feed(0, 0, 0, 0, 0), 21);
    }

    private static void end() {
        c.about("3: n; NONE, and nothing happens, if it has not so many");
        c.due("end(0) of none", new Pen().end(0), 0);
        c.refused("end(1) of none", Pen::new, x -> x.end(1), -1);
        Pen p = new Pen().tell(CLERK);
        c.due("count(16)", p.count(16), 20);
        c.due("end(20) of 20", p.end(20), 20);
        c.refused("end(21) of 20", () -> new Pen().tell(CLERK), x -> x.end(21), -1);
        c.refused("end(400) of 20", () -> new Pen().tell(CLERK), x -> x.end(400), -1);
        c.refused("end(401) of 400", () -> new Pen().tell(CLERK + times(380, " ")), x -> x.end(401), -1);
        c.due("end(400) of 400", new Pen().tell(CLERK + times(380, " ")).end(400), 400);
        c.refused("end(MAX)", () -> new Pen().tell(CLERK), x -> x.end(Integer.MAX_VALUE), -1);

        c.about("3: or n is below 0");
        c.due("end(0)", p.end(0), 0);
        c.refused("end(-1)", () -> new Pen().tell(CLERK), x -> x.end(-1), -1);
        c.refused("end(-1) of none", Pen::new, x -> x.end(-1), -1);
        c.refused("end(MIN)", () -> new Pen().tell(CLERK), x -> x.end(Integer.MIN_VALUE), -1);

        c.about("3: The TAPE has its first n bytes alone");
        Pen q = new Pen().tell("sign 5xyz");
        c.due("end(6)", q.end(6), 6);
        c.due("end(7)", q.end(7), -1);
        c.due("rule()", q.rule(), 0);
        q.tell("sign 5xyz");
        q.end(6);
        c.due("feed behind the sixth", q.feed(0x3b736967, 0x6e203700, 0, 0, 0), 26);
        q.end(13);
        c.due("rule() of 'sign 5;sign 7'", q.rule(), 1);
        // what was behind the end is no part of a NUMBER, a WORD or a SIGN there
        Pen r = Pen.of("office 9 9 0;clerk 0;paper 0 1 9 1");
        r.tell("sign 1 if worth=12;");
        r.end(17);
        c.due("rule() of 'sign 1 if worth=1'", r.rule(), 0);
        c.due("by(0, 2)", r.by(0, 2), 1);
        r.tell("sign worths");
        r.end(10);
        c.due("rule() of 'sign worth'", r.rule(), 1);
        r.tell("sign 1 if 1<=");
        r.end(12);
        r.tell("2");
        c.due("rule() of 'sign 1 if 1<2'", r.rule(), 2);
        c.due("by(2, 2)", r.by(2, 2), 1);
        r.tell("office 99 200 20;clerk 12");
        r.end(24);
        c.due("office()", r.office(), 0);
        c.due("clerk(0, 0)", r.clerk(0, 0), 1);
    }

    // ---- promise 4

    private static Pen busy() {
        Pen p = Pen.of(SOME).with("sign 1");
        p.seed(77);
        p.log(0, 1, 0);
        p.blank(1);
        p.sign(0);
        p.image(2);
        return p;
    }

    private static void office() {
        c.about("4: -2 - its FAULT (the TAPE is empty then, too), and all else stays");
        for (String text : new String[] {"", " ", PEN + ";", CLERK + ";clerk 21", PAPER + ";rests 0 0", SOME + ";office 1 1 0", SOME + ";;"}) {
            c.alike("after the fault of '" + text + "'", () -> {
                Pen p = busy().tell(text);
                p.office();
                return p;
            }, OfficeBoundsTests::busy);
        }
        Pen p = busy().tell(PEN + ";");
        c.due("office()", p.office(), -2 - (1 + 8 * 13));
        c.due("count(16)", p.count(16), 0);

        c.about("4: The TAPE, which is empty then, is the OFFICE in place of the one there was");
        Pen q = busy().tell(CLERK);
        c.due("office()", q.office(), 0);
        c.row("count", q::count, 1, 1, 0, 1, 0, 0, 1, 0, 0, 1, 1, 0, 0, 0, 0, 77, 0);
        c.due("paper(0, 0)", q.paper(0, 0), -2);
        c.due("clerk(1, 0)", q.clerk(1, 0), -1);

        c.about("4: minute 0, no LOGS, nothing to be UNDONE; x, RULES, IMAGES stay");
        Pen r = busy().tell(SOME);
        c.due("office()", r.office(), 2);
        c.row("count", r::count, 9, 20, 2, 2, 1, 2, 1, 0, 0, 9, 20, 0, 0, 0, 0, 77, 0);
        c.due("paper(1, 6)", r.paper(1, 6), 0);
        c.due("paper(0, 4)", r.paper(0, 4), -1);
        c.due("undo()", r.undo(), -1);
        c.due("back(2)", r.back(2), 3);
        c.due("back(1)", r.back(1), -1);
        c.alike("told anew", () -> {
            Pen t = Pen.of(SOME);
            t.blank(0);
            t.sign(1);
            t.sign(0);
            t.filling();
            t.log(1, 0, 0);
            t.tell(SOME);
            t.office();
            return t;
        }, () -> Pen.of(SOME));

        c.about("4: an OFFICE of no CLERKS, of no PAPERS");
        c.due("office()", taken(PEN, 0).count(3), 0);
        c.due("office() of a CLERK", taken(CLERK, 0).count(3), 1);
        c.due("office() of a PAPER", taken(PAPER, 1).count(5), 1);

        c.about("Terms: It is minute 0; the pen is at CLERK 0, full, its nib new");
        Pen s = taken("office 99 200 20;clerk 20;clerk 0", 0);
        c.row("count", s::count, 99, 200, 20, 2, 0, 0, 0, 0, 0, 99, 200, 0, 0, 0, 0, 0, 0);
        c.row("count without a CLERK", taken("office 99 200 20", 0)::count, 99, 200, 20, 0, 0, 0, 0, 0, -1, 99, 200, 0, 0);
        c.due("from CLERK 0's SEAT", taken("office 99 200 20;clerk 20;clerk 0;paper 1 1 0 1", 1).when(0, 0), 21);
    }

    // ---- the bounds of each NUMBER

    private static void penBounds() {
        c.about("Terms: INK 1 to 99");
        bounds("office ", 1, 99, " 1 0", 0, p -> p.count(0));
        bounds("office ", 1, 99, " 1 0", 0, p -> p.count(9));
        c.about("Terms: NIB 1 to 200");
        bounds("office 1 ", 1, 200, " 0", 0, p -> p.count(1));
        bounds("office 1 ", 1, 200, " 0", 0, p -> p.count(10));
        c.about("Terms: FILL 0 to 20");
        bounds("office 1 1 ", 0, 20, "", 0, p -> p.count(2));
        c.about("Terms: office, the first CLAUSE");
        fault("@clerk 0", 4);
        fault("@away 0 0 0", 4);
        fault("@paper 0 1 0 1", 4);
        fault("@rests 0 1", 4);
        fault("@clerk", 4);
        fault("  @clerk 0;office 1 1 0", 4);
        c.about("Terms: office, once");
        fault(PEN + ";@office 1 1 0", 4);
        fault(PEN + ";@office", 4);
        fault(PAPER + ";@office 0 0 99", 4);
    }

    private static void clerkBounds() {
        c.about("Terms: SEAT 0 to 20");
        bounds(PEN + ";clerk ", 0, 20, "", 0, p -> p.clerk(0, 0));
        bounds(PEN + ";clerk 7;clerk 7;clerk 7;clerk ", 0, 20, "", 0, p -> p.clerk(3, 0));
        c.about("Terms: CLERKS in the order told");
        Pen p = taken(PEN + ";clerk 9;clerk 0;clerk 20;clerk 9", 0);
        c.row("clerk", k -> p.clerk(k, 0), 9, 0, 20, 9, -1);
    }

    /** 1 if CLERK 0 is away at that minute. */
    private static int awayAt(Pen p, int minute) {
        return p.pass(minute).clerk(0, 1);
    }

    private static void awayBounds() {
        c.about("Terms: away, a CLERK that was told");
        fault(PEN + ";away @0 0 0", 1);
        for (int clerks = 1; clerks <= 4; clerks++) {
            String told = PEN + times(clerks, ";clerk 0");
            int last = clerks - 1;
            bounds(told + ";away ", 0, last, " 0 0", 0, p -> p.clerk(0, 1) == 1 ? 0 : p.clerk(last, 1) * last);
        }
        fault(CLERK + ";away @1 0 0;clerk 0", 1);

        c.about("Terms: away, the first minute 0 to 299");
        bounds(CLERK + ";away 0 ", 0, 299, " 299", 0, p -> {
            for (int minute = 0; minute <= 300; minute++) {
                if (minute > 0 && minute % 100 != 0 && minute < 299) continue;
                p.pass(minute - p.count(7));
                if (p.clerk(0, 1) == 1) return minute;
            }
            return -1;
        });

        c.about("Terms: away, the last minute 0 to 299");
        bounds(CLERK + ";away 0 0 ", 0, 299, "", 0, p -> {
            for (int minute : new int[] {1, 299, 300}) {
                p.pass(minute - p.count(7));
                if (p.clerk(0, 1) == 0) return minute - 1;
            }
            return -1;
        });

        c.about("Terms: away, the last minute not below the first");
        fault(CLERK + ";away 0 1 @0", 1);
        taken(CLERK + ";away 0 1 1", 0);
        fault(CLERK + ";away 0 299 @298", 1);
        taken(CLERK + ";away 0 299 299", 0);
        fault(CLERK + ";away 0 150 @149", 1);
        taken(CLERK + ";away 0 150 150", 0);
        fault(CLERK + ";away 0 @300 299", 1);

        c.about("Terms: a CLERK is away from the first minute to the last one");
        for (int[] m : new int[][] {{4, 0}, {5, 1}, {6, 1}, {7, 1}, {8, 0}}) {
            c.due("away at " + m[0], awayAt(taken(CLERK + ";away 0 5 7", 0), m[0]), m[1]);
        }
        for (int[] m : new int[][] {{298, 0}, {299, 1}, {300, 0}}) {
            c.due("away at " + m[0], awayAt(taken(CLERK + ";away 0 299 299", 0), m[0]), m[1]);
        }
        c.due("away at 0", awayAt(taken(CLERK + ";away 0 0 0", 0), 0), 1);
        c.due("away at 1", awayAt(taken(CLERK + ";away 0 0 0", 0), 1), 0);
    }

    private static void paperBounds() {
        c.about("Terms: paper, a CLERK that was told");
        fault(PEN + ";paper @0 1 0 1", 1);
        for (int clerks = 1; clerks <= 4; clerks++) {
            bounds(PEN + times(clerks, ";clerk 0") + ";paper ", 0, clerks - 1, " 1 0 1", 1, p -> p.paper(0, 0));
        }
        fault(CLERK + ";paper @1 1 0 1;clerk 0", 1);
        c.about("Terms: STROKES 1 to 20");
        bounds(CLERK + ";paper 0 ", 1, 20, " 0 1", 1, p -> p.paper(0, 1));
        c.about("Terms: DUE 0 to 299");
        bounds(CLERK + ";paper 0 1 ", 0, 299, " 1", 1, p -> p.paper(0, 2));
        c.about("Terms: WORTH 1 to 30");
        bounds(CLERK + ";paper 0 1 0 ", 1, 30, "", 1, p -> p.paper(0, 3));
        c.about("Terms: PAPERS in the order told");
        Pen p = taken(CLERK + ";clerk 1;paper 1 20 299 30;paper 0 1 0 1;paper 1 2 3 4;paper 0 5 6 7;paper 1 8 9 10;paper 0 11 12 13", 6);
        int[][] want = {{1, 20, 299, 30}, {0, 1, 0, 1}, {1, 2, 3, 4}, {0, 5, 6, 7}, {1, 8, 9, 10}, {0, 11, 12, 13}};
        for (int k = 0; k < 6; k++) {
            int paper = k;
            c.row("paper(" + k + ")", w -> p.paper(paper, w), want[k]);
        }
    }

    private static void restsBounds() {
        c.about("Terms: rests, a PAPER that was told");
        fault(CLERK + ";rests @0 1", 1);
        fault(PAPER + ";rests @1 0;paper 0 1 0 1", 1);
        for (int papers = 2; papers <= 6; papers++) {
            String told = CLERK + times(papers, ";paper 0 1 0 1");
            int last = papers - 1;
            c.due("paper " + last + " rests on 0", taken(told + ";rests " + last + " 0", papers).paper(last, 8), 1);
            fault(told + ";rests @" + papers + " 0", 1);
            fault(told + ";rests @99999 0", 1);
            c.due("paper 0 rests on " + last, taken(told + ";rests 0 " + last, papers).paper(0, 8), 1 << last);
            fault(told + ";rests 0 @" + papers, 1);
            fault(told + ";rests 0 @000001", 1);
            fault(told + ";rests @000001 0", 1);
            fault(told + ";rests 0 @4294967297", 1);
        }
        fault(PAPER + ";rests 0 @1;paper 0 1 0 1", 1);

        c.about("Terms: rests on another one (of rests the second PAPER, if it is the first)");
        fault(PAPER + ";rests 0 @0", 1);
        for (int k = 0; k < 6; k++) {
            String told = CLERK + times(6, ";paper 0 1 0 1") + ";rests " + k + " ";
            fault(told + "@" + k, 1);
            fault(told + "@0000" + k, 1);
            int paper = k;
            int other = k == 0 ? 1 : k - 1;
            c.due("paper " + k + " rests on " + other, taken(told + other, 6).paper(paper, 8), 1 << other);
        }

        c.about("Terms: rests, told already: nothing new");
        String six = "office1 1 0;clerk0" + times(6, ";paper0 1 0 1");
        c.due("told twice", taken(six + ";rests 0 5;rests 0 5", 6).paper(0, 8), 32);
        c.due("told three times", taken(six + ";rests 0 5;rests 0 1;rests 0 5;rests 0 5", 6).paper(0, 8), 34);
        c.due("the other way", taken(six + ";rests 0 5;rests 5 0;rests 0 5", 6).paper(5, 8), 1);
        c.due("on all others", taken(six + ";rests 0 1;rests 0 2;rests 0 3;rests 0 4;rests 0 5", 6).paper(0, 8), 62);
        c.due("on all others", taken(six + ";rests 5 4;rests 5 3;rests 5 2;rests 5 1;rests 5 0", 6).paper(5, 8), 31);
        c.due("of none told", taken(six, 6).paper(5, 8), 0);
        Pen again = Pen.of(six + ";rests 0 5").tell(six);
        c.due("office() once more", again.office(), 6);
        c.due("what the OFFICE before told", again.paper(0, 8), 0);
    }

    // ---- how many of each, how long

    private static void howMany() {
        c.about("Terms: CLERKS 0 to 3; a fifth CLERK");
        c.due("four", taken(PEN + times(4, ";clerk 0"), 0).count(3), 4);
        fault(PEN + times(4, ";clerk 0") + ";@clerk 0", 4);
        fault(PEN + times(4, ";clerk 0") + ";@clerk 21", 4);
        fault(PEN + times(4, ";clerk 0") + ";  @clerk", 4);
        c.about("Terms: AWAYS 0 to 5; a seventh AWAY");
        c.due("six", taken(CLERK + times(6, ";away 0 0 0"), 0).count(4), 6);
        fault(CLERK + times(6, ";away 0 0 0") + ";@away 0 0 0", 4);
        fault(CLERK + times(6, ";away 0 0 0") + ";@away 9 9 0", 4);
        c.about("Terms: PAPERS 0 to 5; a seventh PAPER");
        c.due("six", taken(CLERK + times(6, ";paper 0 1 0 1"), 6).count(5), 6);
        fault(CLERK + times(6, ";paper 0 1 0 1") + ";@paper 0 1 0 1", 4);
        fault(CLERK + times(6, ";paper 0 1 0 1") + ";@paper", 4);
        c.about("Terms: the most of each in one OFFICE");
        Pen p = taken(PEN + times(4, ";clerk 0") + times(6, ";away 3 0 0") + times(6, ";paper 3 1 0 1"), 6);
        c.row("count", p::count, 1, 1, 0, 4, 6, 6);

        c.about("Terms: CLAUSE { ; CLAUSE }, 40 at most; one CLAUSE too many (at its first byte)");
        String forty = TWO + times(36, ";rests1 0");
        c.due("forty", taken(forty, 2).paper(1, 8), 1);
        fault(forty + ";@rests1 0", 4);
        fault(forty + ";@rests", 4);
        fault(forty + "; @clerk0", 4);
        fault(forty + ";@away0 0 0", 4);
        fault(forty + ";@paper0 1 0 1", 4);
        fault(forty + ";@office", 4);
        fault(forty + ";@", 0);
        fault(forty + ";@;", 0);
        fault(forty + ";@rest1 0", 0);
        fault(forty + " @0", 0);
        String most = TWO + times(35, ";rests1 0");
        c.due("a fortieth CLERK", taken(most + ";clerk0", 2).count(3), 2);
        c.due("a fortieth AWAY", taken(most + ";away0 0 0", 2).count(4), 1);
        c.due("a fortieth PAPER", taken(most + ";paper0 1 0 1", 3).count(5), 3);
        c.due("a CLAUSE alone", taken(PEN, 0).count(0), 1);
    }

    private static void theTextsLength() {
        c.about("Terms: a text of at most 400 bytes");
        c.due("400 bytes", taken(PAPER + times(366, " "), 1).count(5), 1);
        c.due("400 bytes, the last ones no blanks", taken(PAPER + times(352, " ") + ";paper 0 1 0 2", 2).paper(1, 3), 2);
        Pen p = new Pen().tell(PAPER + times(366, " "));
        c.due("the 401st", p.feed(0x3b3b3b3b, 0, 0, 0, 0), -1);
        c.due("office() without it", p.office(), 1);

        c.about("Terms: FAULTS 1 + 8 * its place: the first and the last place");
        fault("@", 0);
        fault("@;", 0);
        fault("@clerk", 4);
        fault(PEN + times(387, " ") + "@x", 0);
        fault(PEN + times(387, " ") + ";@", 0);
        fault("office 1 1" + times(390, " ") + "@", 0);
        fault("office 1 1 " + times(387, " ") + "@21", 1);
        fault("office 1 1" + times(389, " ") + "@x", 0);
        fault("office @" + times(393, "1"), 1);
        fault(times(394, " ") + "@clerk0", 4);
        fault(times(400, " ") + "@", 0);
        fault(times(399, " ") + "@x", 0);
        fault("@" + times(400, "o"), 0);

        c.about("Terms: the end (behind the last byte)");
        fault(" @", 0);
        fault("office@", 0);
        fault("office @", 0);
        fault("office  1@", 0);
        fault("office 1   @", 0);
        fault("office 1 1@", 0);
        fault(PEN + ";@", 0);
        fault(PEN + ";   @", 0);
        fault(PEN + ";clerk@", 0);
        fault(CLERK + ";away@", 0);
        fault(CLERK + ";away 0@", 0);
        fault(CLERK + ";away 0 0 @", 0);
        fault(CLERK + ";paper@", 0);
        fault(CLERK + ";paper 0@", 0);
        fault(CLERK + ";paper 0 1@", 0);
        fault(CLERK + ";paper 0 1 0 @", 0);
        fault(PAPER + ";rests@", 0);
        fault(TWO + ";rests 0@", 0);
    }

    // ---- which bytes can stand where

    private static void byteAt(String ahead, int b, String behind, int want) {
        Pen p = new Pen().tell(ahead + (char) b + behind);
        c.due("office() of '" + ahead + "' byte " + b + " '" + behind + "'", p.office(), want);
    }

    private static void bytes() {
        c.about("Terms: 0 a byte that can't stand there, each of the 256: ahead of the first CLAUSE");
        for (int b = 0; b < 256; b++) byteAt("", b, PEN, b == ' ' ? 0 : -2 - 1);
        c.about("Terms: 0 a byte that can't stand there, each of the 256: behind a CLAUSE");
        for (int b = 0; b < 256; b++) byteAt(PEN + " ", b, "", b == ' ' ? 0 : -2 - (1 + 8 * (b == ';' ? 14 : 13)));
        c.about("Terms: 0 a byte that can't stand there, each of the 256: where a CLAUSE begins");
        for (int b = 0; b < 256; b++) byteAt(PEN + ";", b, "clerk 0", b == ' ' ? 0 : -2 - (1 + 8 * 13));
        c.about("Terms: 0 a byte that can't stand there, each of the 256: in place of a NUMBER");
        for (int b = 0; b < 256; b++) {
            int want = b == '0' ? -2 - (1 + 8 * 7 + 1) : b > '0' && b <= '9' ? 0 : b == ' ' ? -2 - (1 + 8 * 12) : -2 - (1 + 8 * 7);
            byteAt("office ", b, " 1 1", want);
        }
        c.about("Terms: 0 a byte that can't stand there, each of the 256: behind a WORD");
        for (int b = 0; b < 256; b++) {
            boolean digit = b >= '0' && b <= '9';
            int want = b == ' ' || digit ? 0 : b >= 'a' && b <= 'z' ? -2 - 1 : -2 - (1 + 8 * 6);
            byteAt("office", b, "1 1 0", want);
        }
        c.about("Terms: Blanks (32) stand between as one likes");
        c.due("none but between NUMBERS", taken("office1 1 0;clerk5;away0 0 0;paper0 1 0 1;paper0 1 0 1;rests0 1", 2).clerk(0, 0), 5);
        c.due("many", taken("   office   1   1   0   ;   clerk   5   ;   clerk   6   ", 0).clerk(1, 0), 6);
        fault("office 1 1 @;0", 0);
        fault("@off ice 1 1 0", 0);
        fault(PEN + ";@cl erk 0", 0);
        fault("office 10@", 0);
        c.due("blanks part NUMBERS", taken("office 12 0034 05", 0).count(1), 34);
        c.about("Terms: WORD, small letters, as far as these go on");
        for (String w : new String[] {"o", "offic", "officer", "officeclerk", "sign", "if", "due", "Office", "OFFICE"}) {
            fault("@" + w + " 1 1 0", 0);
        }
        for (String w : new String[] {"cler", "clerks", "awa", "aways", "pape", "papers", "rest", "restss", "sign", "strokes", "Clerk", "x"}) {
            fault(PAPER + ";@" + w + " 0 0 0 0", 0);
        }
        fault(PEN + " @clerk 0", 0);
        fault("office 1 1 0@clerk 0", 0);
    }

    // ---- of more FAULTS the first, of one place the least

    private static void faultPlaces() {
        c.about("Terms: FAULTS, the first along the text");
        fault("office @0 0 21;clerk 21", 1);
        fault("office 1 @0 21", 1);
        fault("office 1 1 @21;xyz", 1);
        fault(CLERK + ";paper 0 @0 300 31", 1);
        fault(CLERK + ";paper @1 0 300 31", 1);
        fault(CLERK + ";paper 0 1 @300 31", 1);
        fault(CLERK + ";away @1 300 0", 1);
        fault(PAPER + ";rests @5 5", 1);
        fault(PEN + ";clerk 20 ;@;clerk 21", 0);
        c.about("Terms: Of one place the least");
        fault("@xyz 1 1 0", 0);
        fault("@; office 1 1 0", 0);
        fault(TWO + times(36, ";rests1 0") + ";@xyz", 0);
        fault(TWO + times(36, ";rests1 0") + ";@5", 0);
        fault(PEN + times(4, ";clerk 0") + ";@clerks 0", 0);
        fault("office 1 1 0 @000000", 0);
        c.about("Terms: a NUMBER too many");
        fault("office 1 1 0 @0", 0);
        fault(PEN + ";clerk 0 @0", 0);
        fault(CLERK + ";away 0 0 0 @0", 0);
        fault(CLERK + ";paper 0 1 0 1 @1", 0);
        fault(TWO + ";rests 0 1 @0", 0);
    }
}
