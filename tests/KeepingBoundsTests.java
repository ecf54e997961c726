import java.util.function.Supplier;
import java.util.function.ToIntFunction;

/** Promises 26 to 30, DRAWS, IMAGES and the 512 calls of an object: each bound from both sides. */
public final class KeepingBoundsTests {
    private static final Cases c = new Cases();

    private static final String SOME = "office 9 20 2;clerk 3;clerk 5;away 1 4 6;paper 0 3 9 4;paper 1 2 30 5;rests 1 0";
    private static final String PAIR = "office 99 200 0;clerk 0;paper 0 2 2 5;paper 0 3 3 7";
    private static final String NONE = "office 9 9 0;clerk 0";
    private static final int MIN = Integer.MIN_VALUE;
    private static final int MAX = Integer.MAX_VALUE;

    public static void main(String[] args) {
        seed();
        draws();
        days();
        daysThatEnd();
        count();
        countAtItsMost();
        image();
        back();
        withoutAnOffice();
        whatStays();
        calls();
        c.finish();
    }

    private static Pen after(Supplier<Pen> made, ToIntFunction<Pen> act) {
        Pen p = made.get();
        act.applyAsInt(p);
        return p;
    }

    private static Pen seeded(String office, int x) {
        Pen p = Pen.of(office);
        p.seed(x);
        return p;
    }

    // ---- x

    private static void seed() {
        c.about("26: x becomes a number: what it was (0 at first); 0 to 2147483647");
        Pen p = new Pen();
        c.due("seed(1)", p.seed(1), 0);
        c.due("seed(MAX)", p.seed(MAX), 1);
        c.due("count(15)", p.count(15), MAX);
        c.due("seed(0)", p.seed(0), MAX);
        c.due("seed(0)", p.seed(0), 0);
        c.due("seed(7)", p.seed(7), 0);
        c.about("26: NONE, and nothing happens, below 0");
        for (int x : new int[] {-1, MIN, -MAX}) {
            c.refused("seed(" + x + ")", () -> seeded(SOME, 77), q -> q.seed(x), -1);
            c.refused("seed(" + x + ") without an OFFICE", Pen::new, q -> q.seed(x), -1);
        }
        c.about("26: x is no ACT");
        Pen q = Pen.of(SOME).pass(1);
        q.seed(5);
        c.due("count(14)", q.count(14), 1);
        c.due("undo()", q.undo(), 0);
        c.due("count(15)", q.count(15), 5);
        c.due("undo()", q.undo(), -1);
    }

    /** Of what is signed first 1, 2, 4, 8, 16 or 30 is in time alone. */
    private static final String FIRST = "office 99 200 0;clerk 0;paper 0 1 1 1;paper 0 1 1 2;paper 0 1 1 4;paper 0 1 1 8;paper 0 1 1 16;paper 0 1 1 30";

    private static void draws() {
        c.about("DRAWS: x becomes x * 1103515245 + 12345, of 2147483648 the rest; from 0 on");
        // x is 12345, 1406932606, 654583775, 1449466924 and so on: DRAWS 0 21468 9988 22117 3498 16927, then 16045
        c.due("the first day of 0", seeded(FIRST, 0).days(1, 0), 1);
        c.due("the second day begins by 16045 mod 6", seeded(FIRST, 0).days(2, 0), 1 + 2);
        c.about("DRAWS: from the greatest x on");
        // x is 1043980748, DRAW 15929, mod 6 is 5; the day has 4409 9862 26718 8713 28226 too; the next begins by 9080, mod 6 is 2
        c.due("the first day of 2147483647", seeded(FIRST, MAX).days(1, 0), 30);
        c.due("the second day", seeded(FIRST, MAX).days(2, 0), 30 + 4);
        c.due("days(1, 1)", seeded(FIRST, MAX).days(1, 1), 6);
        c.due("days(2, 1)", seeded(FIRST, MAX).days(2, 1), 12);
        // x is 2087949151, DRAW 31859, mod 6 is 5
        c.due("the first day of 2147483646", seeded(FIRST, MAX - 1).days(1, 0), 30);
        // x is 1073754169, DRAW 16384, mod 6 is 4
        c.due("the first day of 1073741824", seeded(FIRST, 1 << 30).days(1, 0), 16);
        c.about("DAYS: a DRAW mod how many: that one of them, by number");
        // of 0 1 2 3 4 5 the fifth, of 0 1 2 3 4 the fourth, of 0 1 2 3 the second, of 0 1 3 the 0th, of 1 3 the first, then 1
        String inOrder = "office 99 200 0;clerk 0;paper 0 1 4 1;paper 0 1 6 2;paper 0 1 3 4;paper 0 1 5 8;paper 0 1 2 16;paper 0 1 1 30";
        c.due("all in time in that order", seeded(inOrder, MAX).days(1, 0), 61);
        String earlier = "office 99 200 0;clerk 0;paper 0 1 3 1;paper 0 1 5 2;paper 0 1 2 4;paper 0 1 4 8;paper 0 1 1 16;paper 0 1 0 30";
        c.due("all late by one", seeded(earlier, MAX).days(1, 0), 0);
        Pen p = seeded(FIRST, MAX);
        p.sign(0);
        p.sign(1);
        p.undo();
        // of 1 2 3 4 5 the fourth
        c.due("of five that are left", p.days(1, 0), 1);
        Pen q = seeded("office 99 200 0;clerk 0;paper 0 1 0 1;paper 0 1 2 2;paper 0 1 2 4;paper 0 1 2 8;paper 0 1 2 16", MAX);
        q.sign(0);
        // 15929 mod 4 is 1: of 1 2 3 4 that is 2
        c.due("of four that are left", q.days(1, 0), 4);
    }

    private static void days() {
        c.about("27: DAYS m times (1 to 20)");
        // the papers first are 0, 0, 0, 1
        c.row("days(m, 0)", m -> Pen.of(PAIR).days(m + 1, 0), 5, 10, 15, 22);
        c.row("days(m, 1)", m -> Pen.of(PAIR).days(m + 1, 1), 5, 10, 15, 20);
        c.due("days(20, 1)", Pen.of(PAIR).days(20, 1), 100);
        for (int m : new int[] {0, 21, -1, 100, MIN, MAX}) {
            c.refused("days(" + m + ", 0)", () -> Pen.of(PAIR), p -> p.days(m, 0), -1);
            c.due("days(" + m + ", 1)", Pen.of(PAIR).days(m, 1), -1);
        }
        c.about("27: NONE without these, or an OFFICE");
        for (int what : new int[] {-1, 2, MIN, MAX}) c.due("days(1, " + what + ")", Pen.of(PAIR).days(1, what), -1);
        c.due("days(1, 0) without an OFFICE", new Pen().days(1, 0), -1);
        c.due("days(20, 1) without an OFFICE", new Pen().days(20, 1), -1);
        c.about("DAYS: (nothing stays; x as it was)");
        c.unchanged("days(1, 0)", () -> seeded(PAIR, 12345), p -> p.days(1, 0), 5);
        // 15929 mod 2 is 1: PAPER 1 till 4, VOID, then 0 till 9
        c.unchanged("days(1, 0)", () -> seeded(SOME, MAX), p -> p.days(1, 0), 4);
        c.unchanged("days(1, 1)", () -> seeded(SOME, MAX), p -> p.days(1, 1), 9);
        Pen p = Pen.of(PAIR);
        c.due("the same again", p.days(4, 0), 22);
        c.due("the same again", p.days(4, 0), 22);
        c.due("count(15)", p.count(15), 0);
    }

    private static void daysThatEnd() {
        c.about("DAYS: as long as PAPERS are not signed");
        Pen none = Pen.of(NONE).pass(9999);
        c.due("none: days(20, 1)", none.days(20, 1), 20 * 9999);
        c.due("none: days(20, 0)", none.days(20, 0), 0);
        Pen all = Pen.of(PAIR);
        all.sign(0);
        all.sign(1);
        c.due("all signed: days(20, 0)", all.days(20, 0), 100);
        c.due("all signed: days(20, 1)", all.days(20, 1), 100);
        all.await(1);
        c.due("all signed, a minute later", all.days(3, 1), 18);
        c.about("DAYS: (if it can't be, the day ends)");
        Supplier<Pen> far = () -> Pen.of("office 99 200 20;clerk 0;paper 0 10 0 1;paper 0 9 0 2").pass(9990);
        // drawn are 0, 0, 0, then 1 and 0, 1 and 0, 1 and 0, 0
        c.row("days(m, 1)", m -> far.get().days(m + 1, 1), 9990, 19980, 29970, 39969, 49968, 59967, 69957);
        c.due("neither can be", Pen.of("office 99 200 20;clerk 0;paper 0 10 0 1").pass(9990).days(20, 1), 199800);
        c.due("it can be", Pen.of("office 99 200 20;clerk 0;paper 0 10 0 1").pass(9989).days(20, 1), 199980);
    }

    // ---- COUNT

    private static void count() {
        c.about("28: What 0 to 16; NONE for others");
        Pen p = Pen.of(SOME).with("sign 1");
        p.sign(0);
        p.log(0, 0, 1);
        p.log(0, 0, 1);
        p.seed(4);
        p.tell("abc");
        c.row("count", p::count, 9, 20, 2, 2, 1, 2, 1, 3, 0, 6, 17, 1, 4, 2, 1, 4, 3, -1);
        for (int what : new int[] {-1, 17, 32, MIN, MAX}) {
            c.due("count(" + what + ")", p.count(what), -1);
            c.due("count(" + what + ") without an OFFICE", new Pen().count(what), -1);
        }
        c.about("28: What (0 to 7, 9 to 14 are 0 without an OFFICE, but RULES)");
        Pen q = new Pen().with("sign 1").with("sign 2");
        q.seed(9);
        q.tell("abcd");
        c.row("count", q::count, 0, 0, 0, 0, 0, 0, 2, 0, -1, 0, 0, 0, 0, 0, 0, 9, 4, -1);
        c.about("28: 8: the CLERK where the pen is (NONE: there are none)");
        c.due("no CLERKS", Pen.of("office 1 1 0").count(8), -1);
        c.due("one CLERK", Pen.of("office 1 1 0;clerk 9").count(8), 0);
        Pen r = Pen.of(SOME);
        r.sign(1);
        c.due("carried", r.count(8), 1);
        r.filling();
        r.change();
        r.await(1);
        c.due("filled there", r.count(8), 1);
        r.undo();
        r.undo();
        r.undo();
        r.undo();
        c.due("undone", r.count(8), 0);
    }

    private static void countAtItsMost() {
        c.about("28: all at their most");
        String paper = ";paper 3 1 299 30";
        Pen p = Pen.of("office 99 200 20;clerk 20;clerk 0;clerk 0;clerk 20;away 0 0 0;away 0 0 0;away 0 0 0;away 0 0 0;away 0 0 0;away 0 299 299"
            + paper.repeat(6));
        for (int k = 0; k < 6; k++) p.with("sign 1");
        for (int k = 0; k < 6; k++) p.sign(k);
        for (int k = 0; k < 10; k++) p.log(0, 0, 1);
        p.pass(9993);
        p.seed(MAX);
        p.tell(";".repeat(400));
        c.row("count", p::count, 99, 200, 20, 4, 6, 6, 6, 9999, 3, 93, 194, 63, 180, 10, 20, MAX, 400, -1);
        c.due("rule() of a seventh", p.rule(), -1);
        c.due("log() of an eleventh", p.log(0, 0, 1), -2);
        c.due("await()", p.await(1), -1);
        c.due("feed()", p.feed(0, 0, 0, 0, 0), -1);
    }

    // ---- IMAGES

    private static void image() {
        c.about("29: An IMAGE is made: the minute; IMAGES 0 to 3");
        Pen p = Pen.of(SOME);
        for (int k = 0; k < 4; k++) c.due("image(" + k + ")", p.pass(1).image(k), k + 1);
        p.pass(90);
        c.row("back", p::back, 1, 2, 3, 4, -1);
        c.row("back once more", p::back, 1, 2, 3, 4, -1);
        c.due("at 9999", Pen.of(SOME).pass(9999).image(3), 9999);
        c.about("29: NONE without it");
        for (int k : new int[] {-1, 4, MIN, MAX}) c.refused("image(" + k + ")", () -> Pen.of(SOME).pass(3), q -> q.image(k), -1);
        c.about("29: An IMAGE is made again in place of the one there was");
        Pen q = Pen.of(SOME).pass(1);
        q.image(2);
        q.pass(1);
        c.due("image(2)", q.image(2), 2);
        q.pass(1);
        c.due("back(2)", q.back(2), 2);
        c.about("29: by it nothing else changes, ACTS can be UNDONE still");
        Pen r = Pen.of(SOME).pass(1);
        r.image(0);
        c.due("count(14)", r.count(14), 1);
        c.due("undo()", r.undo(), 0);
        c.due("count(7)", r.count(7), 0);
        c.due("back(0)", r.back(0), 1);
    }

    private static void back() {
        c.about("30: NONE, and nothing happens, if it was never made, or without it");
        Supplier<Pen> some = () -> after(() -> after(() -> Pen.of(SOME).pass(3), p -> p.image(1)), p -> p.sign(0));
        for (int k : new int[] {0, 2, 3, -1, 4, MIN, MAX}) c.refused("back(" + k + ")", some, p -> p.back(k), -1);
        c.due("back(1)", some.get().back(1), 3);
        c.refused("back(3) of a new one", Pen::new, p -> p.back(3), -1);
        c.about("30: (nothing can be UNDONE then)");
        Pen p = some.get();
        c.due("back(1)", p.back(1), 3);
        c.due("count(14)", p.count(14), 0);
        c.due("undo()", p.undo(), -1);
        c.due("count(7)", p.count(7), 3);
        p.await(1);
        c.due("undo()", p.undo(), 0);
        c.due("undo()", p.undo(), -1);
    }

    private static void withoutAnOffice() {
        c.about("29: An IMAGE is made (without an OFFICE, too): the minute");
        Pen p = new Pen();
        p.seed(6);
        c.due("image(0)", p.image(0), 0);
        p.tell(SOME);
        p.office();
        p.with("sign 1");
        p.sign(0);
        p.log(0, 0, 1);
        p.seed(8);
        c.due("image(3)", p.image(3), 3);
        p.tell("abc");
        c.due("back(0)", p.back(0), 0);
        c.row("count", p::count, 0, 0, 0, 0, 0, 0, 1, 0, -1, 0, 0, 0, 0, 0, 0, 6, 3, -1);
        c.due("paper(0, 0)", p.paper(0, 0), -2);
        c.due("clerk(0, 0)", p.clerk(0, 0), -1);
        c.due("sign(1)", p.sign(1), -1);
        c.due("blank(1)", p.blank(1), -1);
        c.due("await(1)", p.await(1), -1);
        c.due("filling()", p.filling(), -1);
        c.due("change()", p.change(), -1);
        c.due("undo()", p.undo(), -1);
        c.due("when(1, 0)", p.when(1, 0), -3);
        c.due("by(0, 0)", p.by(0, 0), -3);
        c.due("waits(0, 0)", p.waits(0, 0), -1);
        c.due("plan(0)", p.plan(0), -3);
        c.due("rings()", p.rings(), -1);
        c.due("blanks(0)", p.blanks(0), -1);
        c.due("second(0)", p.second(0), -1000);
        c.due("keep(0)", p.keep(0), -1);
        c.due("late()", p.late(), -1);
        c.due("log(0, 0, 1)", p.log(0, 0, 1), -2);
        c.due("orders(0)", p.orders(0), -3);
        c.due("look(0)", p.look(0), -1);
        c.due("days(1, 0)", p.days(1, 0), -1);
        c.about("30: from there to an IMAGE with an OFFICE");
        c.due("back(3)", p.back(3), 3);
        c.row("count", p::count, 9, 20, 2, 2, 1, 2, 1, 3, 0, 6, 17, 1, 4, 1, 0, 8, 3, -1);
        c.due("sign(1)", p.sign(1), 9);
        c.due("back(0)", p.back(0), 0);
        c.due("plan(0)", p.plan(0), -3);
    }

    private static void whatStays() {
        c.about("IMAGES: all but the TAPE and the RULES, as it is; gone back to, it is as it was (these stay)");
        Supplier<Pen> made = () -> {
            Pen p = Pen.of("office 9 8 2;clerk 3;clerk 5;away 1 40 41;paper 0 3 9 4;paper 1 2 30 5;paper 1 9 40 6;rests 1 2;rests 0 1").pass(4);
            p.sign(1);
            p.blank(0);
            p.log(0, 1, 0);
            p.seed(9);
            return p;
        };
        Supplier<Pen> other = () -> {
            Pen p = made.get();
            p.image(2);
            p.tell(SOME);
            p.office();
            p.sign(1);
            p.blank(0);
            p.log(1, 0, 1);
            p.log(1, 1, 0);
            p.seed(77);
            p.with("sign worth");
            p.tell("xyz");
            p.back(2);
            return p;
        };
        c.alike("gone back to", other, () -> {
            // the same without ACTS that can be UNDONE, with the RULE and the TAPE told later
            Pen p = made.get();
            p.image(2);
            p.back(2);
            p.with("sign worth");
            p.tell("xyz");
            return p;
        });
        Pen p = other.get();
        c.row("count", p::count, 9, 8, 2, 2, 1, 3, 1, 8, 1, 7, 6, 2, 0, 1, 0, 9, 3);
        c.row("paper(1)", k -> p.paper(1, k), 1, 2, 30, 5, 8, 1, 0, 0, 4);
        c.due("paper(0, 6)", p.paper(0, 6), 1);
        c.due("clerk(1, 0)", p.clerk(1, 0), 5);
        c.due("orders(1)", p.orders(1), 1);
        c.about("IMAGES: what is done then doesn't change them");
        p.sign(0);
        p.blank(2);
        p.log(0, 2, 1);
        p.seed(10);
        c.due("back(2)", p.back(2), 8);
        c.row("count", p::count, 9, 8, 2, 2, 1, 3, 1, 8, 1, 7, 6, 2, 0, 1, 0, 9, 3);
        c.due("paper(2, 6)", p.paper(2, 6), 0);
        c.about("IMAGES: of another one nothing comes");
        Pen q = made.get();
        q.image(0);
        q.sign(0);
        q.image(1);
        c.due("back(0)", q.back(0), 8);
        c.due("count(11)", q.count(11), 2);
        c.due("back(1)", q.back(1), 13);
        c.due("count(11)", q.count(11), 3);
        c.due("count(9)", q.count(9), 4);
    }

    // ---- the 512 calls

    private static void calls() {
        c.about("What it is: An object is used for at most 512 calls: the 512th, of the dearest ones");
        Supplier<Pen> made = () -> Pen.of("office 20 30 2;clerk 0;clerk 7;clerk 3;away 1 9 12;paper 0 4 60 5;paper 1 5 20 7;paper 0 3 90 4;"
            + "paper 2 1 200 3;paper 1 2 222 6;paper 0 9 99 9;rests 3 0;rests 4 1").with("sign worth-way if needs=0");
        ToIntFunction<Pen>[] asked = asks();
        int[] first = new int[asked.length];
        for (int k = 0; k < asked.length; k++) first[k] = asked[k].applyAsInt(made.get());
        Pen p = made.get();
        for (int k = 0; p.callsLeft() > 0; k++) c.due("call with " + p.callsLeft() + " left", asked[k % asked.length].applyAsInt(p), first[k % asked.length]);
        c.due("calls left", p.callsLeft(), 0);
        c.due("WORTH of all", first[0], 34);
        // what later calls answer is free, but they end
        for (int k = 0; k < 10; k++) p.uncounted().keep(0);
        c.about("What it is: the 512th call, of ACTS");
        Pen q = Pen.of(NONE);
        int minute = 0;
        while (q.callsLeft() > 1) {
            q.await(1);
            minute++;
        }
        c.due("the 512th", q.await(1), minute + 1);
        q.uncounted().await(1);
        c.about("What it is: objects have nothing of each other");
        Pen one = Pen.of(SOME).with("sign 1");
        Pen two = new Pen();
        c.row("count of a new one", two::count, 0, 0, 0, 0, 0, 0, 0, 0, -1, 0, 0, 0, 0, 0, 0, 0, 0, -1);
        two.tell(PAIR);
        one.image(0);
        c.due("office()", two.office(), 2);
        c.due("back(0)", two.back(0), -1);
        one.sign(0);
        c.due("count(11)", two.count(11), 0);
        c.due("sign(0)", two.sign(0), 2);
        c.due("paper(0, 4)", one.paper(0, 4), 3);
    }

    @SuppressWarnings("unchecked")
    private static ToIntFunction<Pen>[] asks() {
        return (ToIntFunction<Pen>[]) new ToIntFunction<?>[] {
            (ToIntFunction<Pen>) p -> p.plan(0), (ToIntFunction<Pen>) p -> p.keep(1), (ToIntFunction<Pen>) p -> p.second(1),
            (ToIntFunction<Pen>) Pen::late, (ToIntFunction<Pen>) p -> p.orders(0), (ToIntFunction<Pen>) p -> p.look(1),
            (ToIntFunction<Pen>) p -> p.days(20, 1), (ToIntFunction<Pen>) p -> p.by(0, 0), (ToIntFunction<Pen>) p -> p.waits(1, 0),
            (ToIntFunction<Pen>) p -> p.blanks(0), (ToIntFunction<Pen>) Pen::rings, (ToIntFunction<Pen>) p -> p.plan(8)};
    }
}
