import java.util.function.Supplier;
import java.util.function.ToIntFunction;

/** Promises 6 to 14 and how a PAPER is SIGNED: each bound from both sides. */
public final class SigningBoundsTests {
    private static final Cases c = new Cases();

    private static final String SOME = "office 9 20 2;clerk 3;clerk 5;away 1 4 6;paper 0 3 9 4;paper 1 2 30 5;rests 1 0";
    private static final String SIX = "office 99 200 0;clerk 0;paper 0 1 99 1;paper 0 1 99 1;paper 0 1 99 1;paper 0 1 99 1;paper 0 1 99 1;"
        + "paper 0 1 99 1";
    private static final int MIN = Integer.MIN_VALUE;
    private static final int MAX = Integer.MAX_VALUE;

    public static void main(String[] args) {
        paper();
        clerk();
        ink();
        nib();
        ways();
        away();
        gaps();
        inOrder();
        voidByRests();
        inTime();
        minuteOfSigning();
        sign();
        blank();
        await();
        filling();
        change();
        undo();
        undoOfEach();
        when();
        c.finish();
    }

    /** The PAPER is SIGNED: the minute, INK and NIB that are left and whether it is VOID, told ahead by WHEN too. */
    private static void signed(Pen p, int paper, int minute, int ink, int nib, int isVoid) {
        String call = "sign(" + paper + ") till " + minute;
        c.due(call + " when(0)", p.when(paper, 0), minute);
        c.due(call + " when(1)", p.when(paper, 1), isVoid);
        c.due(call, p.sign(paper), minute);
        c.due(call + " paper(4)", p.paper(paper, 4), minute);
        c.due(call + " paper(5)", p.paper(paper, 5), isVoid);
        c.due(call + " the minute", p.count(7), minute);
        c.due(call + " where", p.count(8), p.paper(paper, 0));
        c.due(call + " ink", p.count(9), ink);
        c.due(call + " nib", p.count(10), nib);
    }

    private static Pen after(Supplier<Pen> made, ToIntFunction<Pen> act) {
        Pen p = made.get();
        act.applyAsInt(p);
        return p;
    }

    // ---- promises 6 and 7

    private static void paper() {
        c.about("6: Of a PAPER what 0 to 8");
        Pen p = Pen.of(SOME);
        c.row("paper(0)", k -> p.paper(0, k), 0, 3, 9, 4, -1, 0, 0, 0, 0, -2);
        c.row("paper(1)", k -> p.paper(1, k), 1, 2, 30, 5, -1, 0, 0, 0, 1, -2);
        p.blank(0);
        c.due("BLANK", p.paper(0, 6), 1);
        c.due("not BLANK", p.paper(1, 6), 0);
        p.sign(1);
        c.row("paper(1)", k -> p.paper(1, k), 1, 2, 30, 5, 4, 1, 0, 0, 1, -2);
        p.sign(0);
        c.row("paper(0)", k -> p.paper(0, k), 0, 3, 9, 4, 9, 0, 1, 1, 0, -2);
        c.about("6: -2 without these");
        for (int what : new int[] {-1, 9, MIN, MAX}) c.due("paper(0, " + what + ")", p.paper(0, what), -2);
        for (int paper : new int[] {-1, 2, 6, 32, MIN, MAX}) {
            c.row("paper(" + paper + ")", k -> p.paper(paper, k), -2, -2, -2, -2, -2, -2, -2, -2, -2);
        }
        c.due("paper(5, 0) of six", Pen.of(SIX).paper(5, 0), 0);
        c.due("paper(6, 0) of six", Pen.of(SIX).paper(6, 0), -2);
        c.due("of none", Pen.of("office 1 1 0;clerk 0").paper(0, 0), -2);
    }

    private static void clerk() {
        c.about("7: Of a CLERK what 0 to 3");
        Pen p = Pen.of(SOME);
        c.row("clerk(0)", k -> p.clerk(0, k), 3, 0, 1, 1, -1);
        c.row("clerk(1)", k -> p.clerk(1, k), 5, 0, 2, 2, -1);
        p.sign(0);
        c.row("clerk(0)", k -> p.clerk(0, k), 3, 0, 1, 0, -1);
        c.about("7: 1 if away now");
        for (int[] m : new int[][] {{0, 0}, {3, 0}, {4, 1}, {5, 1}, {6, 1}, {7, 0}}) {
            c.due("at " + m[0], Pen.of(SOME).pass(m[0]).clerk(1, 1), m[1]);
            c.due("the other at " + m[0], Pen.of(SOME).pass(m[0]).clerk(0, 1), 0);
        }
        c.about("7: NONE without these");
        for (int what : new int[] {-1, 4, MIN, MAX}) c.due("clerk(0, " + what + ")", p.clerk(0, what), -1);
        for (int clerk : new int[] {-1, 2, 4, MIN, MAX}) c.row("clerk(" + clerk + ")", k -> p.clerk(clerk, k), -1, -1, -1, -1);
        Pen four = Pen.of("office 1 1 0;clerk 1;clerk 2;clerk 3;clerk 4");
        c.due("clerk(3, 0) of four", four.clerk(3, 0), 4);
        c.due("clerk(4, 0) of four", four.clerk(4, 0), -1);
        c.due("of none", Pen.of("office 1 1 0").clerk(0, 0), -1);
    }

    // ---- the pen

    private static Pen pen(String inkNibFill, String... papers) {
        StringBuilder b = new StringBuilder("office ").append(inkNibFill).append(";clerk 0");
        for (String paper : papers) b.append(";paper 0 ").append(paper).append(" 299 1");
        return Pen.of(b.toString());
    }

    private static void ink() {
        c.about("II: if the pen has less than its STROKES, it is filled");
        signed(pen("5 200 7", "5"), 0, 5, 0, 195, 0);
        signed(pen("6 200 7", "5"), 0, 5, 1, 195, 0);
        Pen p = pen("9 200 7", "4", "5", "1");
        signed(p, 0, 4, 5, 196, 0);
        signed(p, 1, 9, 0, 191, 0);
        // 7 minutes of filling, a stroke
        signed(p, 2, 17, 8, 190, 0);
        c.about("II: filled once, if INK is as much as they are");
        Pen q = pen("6 200 7", "1", "6");
        signed(q, 0, 1, 5, 199, 0);
        signed(q, 1, 14, 0, 193, 0);
        Pen r = pen("7 200 7", "2", "6");
        signed(r, 0, 2, 5, 198, 0);
        signed(r, 1, 15, 1, 192, 0);
        c.about("II: filled as often as is needed for these, FILL minutes each");
        signed(pen("5 200 7", "6"), 0, 20, 4, 194, 0);
        signed(pen("5 200 7", "10"), 0, 24, 0, 190, 0);
        signed(pen("5 200 7", "11"), 0, 32, 4, 189, 0);
        signed(pen("1 200 20", "1"), 0, 1, 0, 199, 0);
        signed(pen("1 200 20", "2"), 0, 42, 0, 198, 0);
        signed(pen("1 200 20", "20"), 0, 420, 0, 180, 0);
        signed(pen("19 200 20", "20"), 0, 60, 18, 180, 0);
        signed(pen("20 200 20", "20"), 0, 20, 0, 180, 0);
        signed(pen("10 200 20", "20"), 0, 60, 0, 180, 0);
        signed(pen("1 200 0", "20"), 0, 20, 0, 180, 0);
        c.about("II: it has INK for each of these fillings then, and no more");
        Pen s = pen("9 200 7", "4", "6");
        signed(s, 0, 4, 5, 196, 0);
        signed(s, 1, 17, 3, 190, 0);
        Pen t = pen("4 200 1", "1", "9");
        signed(t, 0, 1, 3, 199, 0);
        // three fillings are 12, of which 9 are written
        signed(t, 1, 13, 3, 190, 0);
    }

    private static void nib() {
        c.about("II: would its nib cross (fewer STROKES till then than the PAPER's), it is changed");
        signed(pen("99 5 0", "5"), 0, 5, 94, 0, 0);
        Pen p = pen("99 5 0", "3", "2", "1");
        signed(p, 0, 3, 96, 2, 0);
        signed(p, 1, 5, 94, 0, 0);
        signed(p, 2, 9, 93, 4, 0);
        Pen q = pen("99 5 0", "4", "2");
        signed(q, 0, 4, 95, 1, 0);
        // 3 minutes, and two of the five new STROKES
        signed(q, 1, 9, 93, 3, 0);
        c.about("II: it has NIB STROKES again; as many as these are not too few");
        Pen r = pen("99 5 0", "1", "5");
        signed(r, 0, 1, 98, 4, 0);
        signed(r, 1, 9, 93, 0, 0);
        c.about("II: if these are too few, it crosses nevertheless: the PAPER is VOID and the nib has none left");
        Pen s = pen("99 5 0", "6", "1");
        signed(s, 0, 9, 93, 0, 1);
        signed(s, 1, 13, 92, 4, 0);
        Pen t = pen("99 5 0", "2", "6");
        signed(t, 0, 2, 97, 3, 0);
        signed(t, 1, 11, 91, 0, 1);
        signed(pen("99 1 0", "1"), 0, 1, 98, 0, 0);
        signed(pen("99 1 0", "2"), 0, 5, 97, 0, 1);
        signed(pen("99 19 0", "20"), 0, 23, 79, 0, 1);
        signed(pen("99 20 0", "20"), 0, 20, 79, 0, 0);
        c.about("II: filled and changed");
        // two fillings of 5, a change, 6 STROKES
        signed(pen("5 5 5", "6"), 0, 19, 4, 0, 1);
        signed(pen("5 6 5", "6"), 0, 16, 4, 0, 0);
        signed(pen("6 5 5", "6"), 0, 9, 0, 0, 1);
    }

    private static void ways() {
        c.about("II: in as many minutes as their SEATS lie apart: 0 to 20");
        Pen p = Pen.of("office 99 200 0;clerk 0;clerk 20;clerk 20;paper 1 1 299 1;paper 2 1 299 1;paper 0 1 299 1");
        signed(p, 0, 21, 98, 199, 0);
        signed(p, 1, 22, 97, 198, 0);
        signed(p, 2, 43, 96, 197, 0);
        signed(Pen.of("office 99 200 0;clerk 7;clerk 8;paper 1 1 299 1"), 0, 2, 98, 199, 0);
        signed(Pen.of("office 99 200 0;clerk 8;clerk 7;paper 1 1 299 1"), 0, 2, 98, 199, 0);
        signed(Pen.of("office 99 200 0;clerk 20;clerk 0;paper 0 1 299 1"), 0, 1, 98, 199, 0);
    }

    private static Pen absent(String aways, int... strokes) {
        StringBuilder b = new StringBuilder("office 99 200 0;clerk 0").append(aways);
        for (int s : strokes) b.append(";paper 0 ").append(s).append(" 299 1");
        return Pen.of(b.toString());
    }

    private static void whenAfter(String aways, int strokes, int minutes, int want) {
        c.due(strokes + " STROKES from " + minutes + " on" + aways, absent(aways, strokes).pass(minutes).when(0, 0), want);
    }

    private static void away() {
        c.about("II: they wait till the first minute from which on the CLERK is not away for as many minutes as STROKES");
        whenAfter(";away 0 5 9", 5, 0, 5);
        whenAfter(";away 0 5 9", 6, 0, 16);
        whenAfter(";away 0 5 9", 5, 1, 15);
        whenAfter(";away 0 5 9", 4, 1, 5);
        whenAfter(";away 0 5 9", 1, 4, 5);
        whenAfter(";away 0 5 9", 1, 5, 11);
        whenAfter(";away 0 5 9", 1, 9, 11);
        whenAfter(";away 0 5 9", 1, 10, 11);
        whenAfter(";away 0 5 9", 1, 11, 12);
        whenAfter(";away 0 5 5", 1, 5, 7);
        whenAfter(";away 0 0 0", 20, 0, 21);
        c.about("II: away at the last minutes, 299");
        whenAfter(";away 0 299 299", 1, 298, 299);
        whenAfter(";away 0 299 299", 2, 297, 299);
        whenAfter(";away 0 299 299", 2, 298, 302);
        whenAfter(";away 0 299 299", 1, 299, 301);
        whenAfter(";away 0 299 299", 1, 300, 301);
        whenAfter(";away 0 0 299", 1, 0, 301);
        c.about("II: away: another CLERK's hours are not asked");
        Pen p = Pen.of("office 99 200 0;clerk 0;clerk 0;away 1 0 9;paper 0 1 99 1;paper 1 1 99 1");
        c.due("when(0, 0)", p.when(0, 0), 1);
        c.due("when(1, 0)", p.when(1, 0), 11);
    }

    private static void gaps() {
        c.about("II: between two times away, as long as the PAPER, and one minute too short");
        whenAfter(";away 0 0 4;away 0 10 14", 5, 0, 10);
        whenAfter(";away 0 0 4;away 0 10 14", 6, 0, 21);
        whenAfter(";away 0 10 14;away 0 0 4", 5, 0, 10);
        whenAfter(";away 0 10 14;away 0 0 4", 6, 0, 21);
        whenAfter(";away 0 0 4;away 0 10 14", 4, 6, 10);
        whenAfter(";away 0 0 4;away 0 10 14", 5, 6, 20);
        c.about("II: times away side by side, over and within one another, in any order");
        whenAfter(";away 0 0 4;away 0 5 9", 1, 0, 11);
        whenAfter(";away 0 5 9;away 0 0 4", 1, 0, 11);
        whenAfter(";away 0 3 8;away 0 0 4", 1, 0, 10);
        whenAfter(";away 0 0 9;away 0 3 4", 1, 0, 11);
        whenAfter(";away 0 3 4;away 0 0 9", 1, 0, 11);
        whenAfter(";away 0 3 4;away 0 3 4", 4, 0, 9);
        whenAfter(";away 0 3 4;away 0 3 4", 3, 0, 3);
        c.about("II: six times away, the last told first");
        String six = ";away 0 10 10;away 0 8 8;away 0 6 6;away 0 4 4;away 0 2 2;away 0 0 0";
        whenAfter(six, 1, 0, 2);
        whenAfter(six, 2, 0, 13);
        whenAfter(";away 0 5 5;away 0 4 4;away 0 3 3;away 0 2 2;away 0 1 1;away 0 0 0", 1, 0, 7);
        whenAfter(";away 0 0 0;away 0 1 1;away 0 2 2;away 0 3 3;away 0 4 4;away 0 5 5", 1, 0, 7);
    }

    private static void inOrder() {
        c.about("II: filled, changed, carried, then they wait");
        String pen = "office 4 4 5;clerk 0;clerk 3;paper 1 5 299 1";
        // two fillings, a change and the way: the pen is there at 16
        c.due("no hours away", Pen.of(pen).when(0, 0), 21);
        c.due("away till the minute before", Pen.of(pen + ";away 1 0 15").when(0, 0), 21);
        c.due("away till that minute", Pen.of(pen + ";away 1 0 16").when(0, 0), 22);
        c.due("away from the last STROKE on", Pen.of(pen + ";away 1 20 30").when(0, 0), 36);
        c.due("away behind the last STROKE", Pen.of(pen + ";away 1 21 30").when(0, 0), 21);
        c.due("the CLERK where the pen was is away", Pen.of(pen + ";away 0 0 99").when(0, 0), 21);
        c.about("II: a minute a STROKE, so much INK and nib less");
        Pen p = Pen.of("office 20 30 0;clerk 0;paper 0 1 99 1;paper 0 2 99 1;paper 0 17 99 1");
        signed(p, 0, 1, 19, 29, 0);
        signed(p, 1, 3, 17, 27, 0);
        signed(p, 2, 20, 0, 10, 0);
    }

    // ---- VOID and in time

    private static final String RESTS = "office 99 200 0;clerk 0;paper 0 1 99 1;paper 0 1 99 2;paper 0 1 99 4";

    private static void voids(String what, String office, int... calls) {
        Pen p = Pen.of(office);
        // 10 and more: BLANK; the last number is what VOID PAPERS there are then, as bits
        for (int k = 0; k + 1 < calls.length; k++) {
            if (calls[k] >= 10) p.blank(calls[k] - 10);
            else p.sign(calls[k]);
        }
        int bits = 0;
        for (int k = 0; k < 3; k++) bits |= p.paper(k, 5) == 1 ? 1 << k : 0;
        c.due(what + ": VOID", bits, calls[calls.length - 1]);
    }

    private static void voidByRests() {
        c.about("II: VOID, too, if it RESTS on a PAPER that is not signed");
        voids("0 first", RESTS + ";rests 0 1", 0, 1);
        voids("0 first, then 1", RESTS + ";rests 0 1", 0, 1, 1);
        voids("1 first", RESTS + ";rests 0 1", 1, 0, 0);
        voids("on two, one of them signed", RESTS + ";rests 0 1;rests 0 2", 1, 0, 2, 1);
        voids("on two, the other one signed", RESTS + ";rests 0 1;rests 0 2", 2, 0, 1, 1);
        voids("on two, both signed", RESTS + ";rests 0 1;rests 0 2", 2, 1, 0, 0);
        voids("on each other", RESTS + ";rests 0 1;rests 1 0", 0, 1, 3);
        c.about("II: or VOID");
        voids("a row of them", RESTS + ";rests 0 1;rests 2 0", 0, 2, 1, 5);
        voids("the nib crossed", "office 99 2 0;clerk 0;paper 0 1 99 1;paper 0 3 99 2;rests 0 1", 1, 0, 3);
        voids("late is not VOID", "office 99 9 0;clerk 0;paper 0 1 99 1;paper 0 3 2 2;rests 0 1", 1, 0, 0);
        c.about("II: and was not itself signed BLANK");
        voids("0 is BLANK", RESTS + ";rests 0 1", 10, 0, 0);
        voids("1 is BLANK, that 0 rests on", RESTS + ";rests 0 1", 11, 0, 1);
        voids("1 is BLANK and signed", RESTS + ";rests 0 1", 11, 1, 0, 0);
        voids("BLANK comes too late", RESTS + ";rests 0 1", 0, 10, 1);
        voids("a BLANK one on a VOID one", RESTS + ";rests 0 1;rests 2 0", 12, 0, 2, 1);
        voids("on a BLANK one that is not VOID", RESTS + ";rests 0 1;rests 2 0", 10, 0, 2, 0);
        voids("a ring with one BLANK", RESTS + ";rests 0 1;rests 1 2;rests 2 0", 11, 1, 0, 2, 0);
        voids("a ring with one BLANK, in the other order", RESTS + ";rests 0 1;rests 1 2;rests 2 0", 11, 1, 2, 0, 4);
        voids("BLANK, and the nib crosses", "office 99 2 0;clerk 0;paper 0 3 99 1;paper 0 1 99 2;rests 0 1", 10, 0, 1);
    }

    private static void inTime() {
        c.about("II: in time, if its minute is not above its DUE");
        for (int due : new int[] {2, 3, 4}) {
            Pen p = Pen.of("office 99 200 0;clerk 0;paper 0 3 " + due + " 7").with("sign 1");
            int good = due >= 3 ? 1 : 0;
            c.due("when(0, 2) due " + due, p.when(0, 2), good);
            c.due("by(0, 0) due " + due, p.by(0, 0), 7 * good);
            c.due("plan(0) due " + due, p.plan(0), 7 * good);
            c.due("late() due " + due, p.late(), 7 - 7 * good);
            c.due("days(1, 0) due " + due, p.days(1, 0), 7 * good);
            c.due("keep(1) due " + due, p.keep(1), 7 * good);
            p.sign(0);
            c.due("paper(0, 7) due " + due, p.paper(0, 7), good);
            c.due("count(12) due " + due, p.count(12), 7 * good);
        }
        c.about("II: in time at DUE 0 and 299");
        Pen zero = Pen.of("office 99 200 0;clerk 0;paper 0 1 0 7");
        c.due("DUE 0 can't be met", zero.when(0, 2), 0);
        Supplier<Pen> last = () -> Pen.of("office 99 200 0;clerk 0;paper 0 1 299 30");
        c.due("till 299", last.get().pass(298).when(0, 2), 1);
        c.due("till 300", last.get().pass(299).when(0, 2), 0);
        c.about("II: WORTH in time, if it is signed, not VOID");
        Pen p = Pen.of(RESTS + ";rests 0 1");
        c.due("not signed", p.paper(0, 7), 0);
        p.sign(0);
        c.due("VOID", p.paper(0, 7), 0);
        c.due("count(12)", p.count(12), 0);
        p.sign(2);
        c.due("good", p.paper(2, 7), 1);
        c.due("count(12)", p.count(12), 4);
        c.due("in time at once, VOID", Pen.of(RESTS + ";rests 0 1").when(0, 2), 0);
    }

    // ---- minute 9999

    private static void last(String office, int needed) {
        Supplier<Pen> fits = () -> Pen.of(office).with("sign 1").pass(9999 - needed);
        Supplier<Pen> tooLate = () -> Pen.of(office).with("sign 1").pass(10000 - needed);
        c.due("when(0, 0) of " + office, fits.get().when(0, 0), 9999);
        c.due("sign(0) of " + office, fits.get().sign(0), 9999);
        c.due("by(0, 1) of " + office, fits.get().by(0, 1), 9999);
        c.due("by(0, 2) of " + office, fits.get().by(0, 2), 1);
        c.due("late() of " + office, fits.get().late(), 1);
        c.due("days(1, 1) of " + office, fits.get().days(1, 1), 9999);
        c.row("when too late", k -> tooLate.get().when(0, k), -2, -2, -2);
        c.refused("sign(0) too late of " + office, tooLate, p -> p.sign(0), -1);
        c.due("by(0, 2) too late of " + office, tooLate.get().by(0, 2), 0);
        c.due("late() too late of " + office, tooLate.get().late(), -2);
        c.due("days(1, 1) too late of " + office, tooLate.get().days(1, 1), 10000 - needed);
    }

    private static void minuteOfSigning() {
        c.about("II: The minute is 9999 at most: a PAPER that would need more can't be signed: its STROKES");
        last("office 99 200 20;clerk 0;paper 0 1 0 1", 1);
        last("office 99 200 20;clerk 0;paper 0 20 0 1", 20);
        c.about("II: 9999 at most: with its fillings");
        last("office 9 200 20;clerk 0;paper 0 10 0 1", 50);
        c.about("II: 9999 at most: with its nib changed");
        last("office 99 9 0;clerk 0;paper 0 10 0 1", 13);
        c.about("II: 9999 at most: with the way");
        last("office 99 200 0;clerk 0;clerk 20;paper 1 10 0 1", 30);
        c.about("II: 9999 at most: with all of them");
        last("office 1 1 20;clerk 0;clerk 20;paper 1 20 0 1", 400 + 3 + 20 + 20);
        c.about("II: another PAPER can be signed still");
        Pen p = Pen.of("office 99 200 0;clerk 0;paper 0 3 0 1;paper 0 2 0 1;paper 0 1 0 1").pass(9997);
        c.due("sign(0)", p.sign(0), -1);
        c.due("sign(1)", p.sign(1), 9999);
        c.due("sign(2)", p.sign(2), -1);
        c.due("undo()", p.undo(), 19);
        c.due("sign(2)", p.sign(2), 9998);
    }

    // ---- the ACTS

    private static void sign() {
        c.about("8: NONE, and nothing happens, without a PAPER that is not signed and can be");
        Supplier<Pen> some = () -> after(() -> Pen.of(SOME), p -> p.sign(0));
        c.due("sign(1)", some.get().sign(1), 9);
        for (int paper : new int[] {0, -1, 2, 5, 6, 31, 32, MIN, MAX}) {
            c.refused("sign(" + paper + ")", some, p -> p.sign(paper), -1);
        }
        c.due("sign(5) of six", Pen.of(SIX).sign(5), 1);
        c.refused("sign(6) of six", () -> Pen.of(SIX), p -> p.sign(6), -1);
        c.refused("sign(0) of none", () -> Pen.of("office 1 1 0;clerk 0"), p -> p.sign(0), -1);
    }

    private static void blank() {
        c.about("9: BLANK: how many are BLANK");
        Pen p = Pen.of(SIX);
        for (int k = 0; k < 6; k++) c.due("blank(" + (5 - k) + ")", p.blank(5 - k), k + 1);
        Pen q = Pen.of(SIX);
        q.blank(3);
        q.sign(3);
        c.due("a signed one counts", q.blank(2), 2);
        c.due("the minute stays", q.count(7), 1);
        c.about("9: NONE, and nothing happens, without these (a PAPER that is not signed is marked BLANK, that is not yet)");
        Supplier<Pen> some = () -> after(() -> after(() -> Pen.of(SIX), x -> x.blank(1)), x -> x.sign(0));
        for (int paper : new int[] {0, 1, -1, 6, 31, 32, 33, MIN, MAX}) {
            c.refused("blank(" + paper + ")", some, x -> x.blank(paper), -1);
        }
        c.refused("blank(2) of two", () -> Pen.of(SOME), x -> x.blank(2), -1);
        c.due("blank(1) of two", Pen.of(SOME).blank(1), 1);
        c.refused("blank(1) signed", () -> after(some, x -> x.sign(1)), x -> x.blank(1), -1);
    }

    private static void await() {
        c.about("10: WAIT (some minutes, 1 to 100)");
        Pen p = Pen.of(SOME);
        c.due("await(1)", p.await(1), 1);
        c.due("await(100)", p.await(100), 101);
        c.row("all else stays", k -> p.count(8 + k), 0, 9, 20, 0);
        for (int minutes : new int[] {0, -1, 101, -100, MIN, MAX}) {
            c.refused("await(" + minutes + ")", () -> Pen.of(SOME).pass(5), x -> x.await(minutes), -1);
        }
        c.about("10: not above 9999");
        c.due("till 9999", Pen.of(SOME).pass(9899).await(100), 9999);
        c.due("till 9999", Pen.of(SOME).pass(9998).await(1), 9999);
        c.refused("till 10000", () -> Pen.of(SOME).pass(9900), x -> x.await(100), -1);
        c.refused("till 10000", () -> Pen.of(SOME).pass(9999), x -> x.await(1), -1);
        c.due("till 9999", Pen.of(SOME).pass(9900).await(99), 9999);
        c.about("10: or an OFFICE");
        c.refused("await(1)", Pen::new, x -> x.await(1), -1);
        c.refused("await(100)", Pen::new, x -> x.await(100), -1);
        c.due("without a CLERK", Pen.of("office 1 1 0").await(1), 1);
    }

    private static Supplier<Pen> written(String inkNibFill, int strokes, int minutes) {
        return () -> after(() -> pen(inkNibFill, "" + strokes), p -> p.sign(0)).pass(minutes);
    }

    private static void filling() {
        c.about("11: FILLING: what it had; NONE, and nothing happens, if it has no less");
        c.refused("filling() full", () -> pen("9 9 4", "1"), Pen::filling, -1);
        Pen p = written("9 9 4", 1, 0).get();
        c.due("filling() of one less", p.filling(), 8);
        c.row("count", k -> p.count(7 + k), 5, 0, 9, 8);
        c.due("filling() again", p.filling(), -1);
        c.refused("filling() again", () -> after(written("9 9 4", 1, 0), Pen::filling), Pen::filling, -1);
        Pen q = written("9 9 4", 9, 0).get();
        c.due("filling() of none left", q.filling(), 0);
        c.row("count", k -> q.count(7 + k), 13, 0, 9, 0);
        Pen r = written("9 9 0", 9, 0).get();
        c.due("filling() in no time", r.filling(), 0);
        c.due("the minute", r.count(7), 9);
        c.due("ACTS", r.count(14), 2);
        Pen s = written("4 20 1", 9, 0).get();
        c.due("filling() after three fillings", s.filling(), 3);
        c.refused("without an OFFICE", Pen::new, Pen::filling, -1);
        c.about("11: or if the minute would be above 9999");
        c.due("till 9999", written("9 9 4", 1, 9994).get().filling(), 8);
        c.refused("till 10000", written("9 9 4", 1, 9995), Pen::filling, -1);
        c.due("till 9999", written("9 9 20", 1, 9978).get().filling(), 8);
        c.refused("till 10000", written("9 9 20", 1, 9979), Pen::filling, -1);
        c.due("in no time at 9999", written("9 9 0", 1, 9998).get().filling(), 8);
        c.refused("a minute at 9999", written("9 9 1", 1, 9998), Pen::filling, -1);
        c.refused("full at 9999", () -> pen("9 9 0", "1").pass(9999), Pen::filling, -1);
    }

    private static void change() {
        c.about("12: CHANGE: STROKES it had; NONE, and nothing happens, if it has no less");
        c.refused("change() new", () -> pen("9 9 4", "1"), Pen::change, -1);
        Pen p = written("9 9 4", 1, 0).get();
        c.due("change() of one less", p.change(), 8);
        c.row("count", k -> p.count(7 + k), 4, 0, 8, 9);
        c.due("change() again", p.change(), -1);
        c.refused("change() again", () -> after(written("9 9 4", 1, 0), Pen::change), Pen::change, -1);
        Pen q = written("9 9 4", 9, 0).get();
        c.due("change() of none left", q.change(), 0);
        c.row("count", k -> q.count(7 + k), 12, 0, 0, 9);
        c.due("change() of a crossed one", written("20 9 4", 10, 0).get().change(), 0);
        c.refused("without an OFFICE", Pen::new, Pen::change, -1);
        c.about("12: or if the minute would be above 9999");
        c.due("till 9999", written("9 9 4", 1, 9995).get().change(), 8);
        c.refused("till 10000", written("9 9 4", 1, 9996), Pen::change, -1);
        c.refused("at 9999", written("9 9 4", 1, 9998), Pen::change, -1);
    }

    // ---- UNDO

    private static void undo() {
        c.about("13: NONE, and nothing happens: none can");
        c.refused("undo() of none", () -> Pen.of(SOME), Pen::undo, -1);
        c.refused("undo() without an OFFICE", Pen::new, Pen::undo, -1);
        c.refused("undo() behind the last", () -> after(() -> Pen.of(SOME).pass(1), Pen::undo), Pen::undo, -1);
        c.about("13: The last ACT is UNDONE: how many more can be; the last 20, the last first");
        for (int acts : new int[] {1, 2, 19, 20, 21, 22, 39, 40, 41, 45}) {
            Pen p = Pen.of(SOME);
            for (int k = 0; k < acts; k++) p.await(1);
            int can = Math.min(acts, 20);
            c.due(acts + " ACTS: count(14)", p.count(14), can);
            for (int k = 1; k <= can; k++) {
                c.due(acts + " ACTS: undo()", p.undo(), can - k);
                c.due(acts + " ACTS: the minute", p.count(7), acts - k);
                c.due(acts + " ACTS: count(14)", p.count(14), can - k);
            }
            c.due(acts + " ACTS: undo() once more", p.undo(), -1);
            c.due(acts + " ACTS: the minute stays", p.count(7), acts - can);
        }
        c.about("13: undone and done again");
        Pen q = Pen.of(SOME);
        for (int k = 0; k < 25; k++) q.await(1);
        for (int k = 0; k < 3; k++) q.undo();
        q.await(50);
        c.due("count(14)", q.count(14), 18);
        c.due("the minute", q.count(7), 72);
        c.due("undo()", q.undo(), 17);
        c.due("the minute", q.count(7), 22);
        for (int k = 0; k < 17; k++) q.undo();
        c.due("the minute", q.count(7), 5);
        c.due("undo()", q.undo(), -1);
        c.about("13: what is refused is no ACT");
        c.alike("refused ones", () -> {
            Pen p = Pen.of(SOME).pass(7);
            p.sign(9);
            p.blank(-1);
            p.await(0);
            p.await(101);
            p.filling();
            p.change();
            p.log(0, 0, 0);
            p.back(1);
            return p;
        }, () -> Pen.of(SOME).pass(7));
    }

    private static void undoOfEach() {
        Supplier<Pen> made = () -> {
            Pen p = Pen.of("office 9 8 2;clerk 3;clerk 5;paper 0 3 9 4;paper 1 2 30 5;paper 1 9 40 6;rests 1 2;rests 0 1").with("sign 1").pass(4);
            p.sign(1);
            p.blank(0);
            p.seed(9);
            p.log(0, 1, 0);
            return p;
        };
        c.about("ACTS: SIGN, UNDONE");
        for (int k = 0; k < 3; k += 2) {
            int paper = k;
            c.alike("sign(" + k + ") and undo()", () -> after(() -> after(made, p -> p.sign(paper)), Pen::undo), made);
        }
        c.about("ACTS: BLANK, UNDONE");
        c.alike("blank(2) and undo()", () -> after(() -> after(made, p -> p.blank(2)), Pen::undo), made);
        c.about("ACTS: WAIT, UNDONE");
        c.alike("await(100) and undo()", () -> after(() -> after(made, p -> p.await(100)), Pen::undo), made);
        c.about("ACTS: FILLING, UNDONE");
        c.alike("filling() and undo()", () -> after(() -> after(made, Pen::filling), Pen::undo), made);
        c.about("ACTS: CHANGE, UNDONE");
        c.alike("change() and undo()", () -> after(() -> after(made, Pen::change), Pen::undo), made);
        c.about("ACTS: all of them UNDONE, the last first; what is no ACT stays");
        Pen p = made.get();
        c.due("sign(2)", p.sign(2), 8 + 2 + 3 + 9);
        c.due("undo() the sign", p.undo(), 3);
        p.blank(2);
        p.filling();
        p.change();
        c.row("count", k -> p.count(7 + k), 8 + 2 + 3, 1, 9, 8, 2, 0, 1, 6);
        c.due("undo() the change", p.undo(), 5);
        c.row("count", k -> p.count(7 + k), 10, 1, 9, 6);
        c.due("undo() the filling", p.undo(), 4);
        c.row("count", k -> p.count(7 + k), 8, 1, 7, 6);
        c.due("undo() the blank", p.undo(), 3);
        c.due("BLANK", p.paper(2, 6), 0);
        c.due("BLANK", p.paper(0, 6), 1);
        c.due("undo() the other blank", p.undo(), 2);
        c.due("BLANK", p.paper(0, 6), 0);
        c.due("undo() the sign", p.undo(), 1);
        c.row("count", k -> p.count(7 + k), 4, 0, 9, 8, 0);
        c.row("paper(1)", k -> p.paper(1, 4 + k), -1, 0, 0, 0);
        c.due("undo() the wait", p.undo(), 0);
        c.row("count", k -> p.count(7 + k), 0, 0, 9, 8, 0, 0, 1, 0, 9);
        c.due("undo()", p.undo(), -1);
    }

    // ---- WHEN

    private static void when() {
        c.about("14: WHEN what 0 to 2");
        Pen p = Pen.of(SOME);
        c.row("when(0)", k -> p.when(0, k), 3, 0, 1, -3);
        // two minutes of way; away from 4 to 6, so there is room at 2 and 3
        c.row("when(1)", k -> p.when(1, k), 4, 1, 0, -3);
        p.await(1);
        c.row("when(1) a minute later", k -> p.when(1, k), 9, 1, 0, -3);
        c.about("14: -2: it can't be signed");
        c.row("till 9999", k -> Pen.of(SOME).pass(9996).when(0, k), 9999, 0, 0, -3);
        c.row("till 10000", k -> Pen.of(SOME).pass(9997).when(0, k), -2, -2, -2, -3);
        c.about("14: -3 without a PAPER that is not signed, or for others");
        Supplier<Pen> some = () -> after(() -> Pen.of(SOME), x -> x.sign(0));
        for (int paper : new int[] {0, -1, 2, 6, 32, MIN, MAX}) c.row("when(" + paper + ")", k -> some.get().when(paper, k), -3, -3, -3);
        for (int what : new int[] {-1, 3, MIN, MAX}) {
            c.due("when(1, " + what + ")", some.get().when(1, what), -3);
            c.due("when(1, " + what + ") too late", Pen.of(SOME).pass(9999).when(1, what), -3);
        }
        c.due("when(0, 0) signed, too late", some.get().pass(9996).when(0, 0), -3);
        c.due("when(2, 0) too late", some.get().pass(9996).when(2, 0), -3);
        c.about("III: By what is asked nothing changes: WHEN");
        c.unchanged("when(1, 0)", some, x -> x.when(1, 0), 9);
        c.unchanged("when(1, 1)", some, x -> x.when(1, 1), 0);
    }
}
