import java.util.ArrayList;
import java.util.List;
import java.util.function.Supplier;
import java.util.function.ToIntFunction;

/** Counts the cases of a test program: each is a sentence of the document, and good if all its answers are due. */
final class Cases {
    private int passed;
    private int failed;
    private String sentence;
    private boolean good;

    /** Ends the case there was and begins that of another sentence. */
    void about(String words) {
        close();
        sentence = words;
        good = true;
    }

    private void close() {
        if (sentence != null && good) passed++;
        if (sentence != null && !good) failed++;
        sentence = null;
    }

    void due(String call, long got, long want) {
        if (got != want) wrong(call + " answered " + got + ", due is " + want);
    }

    /** Answers of calls of one name, by their last number from 0 on. */
    void row(String call, ToIntFunction<Integer> asked, int... want) {
        for (int k = 0; k < want.length; k++) due(call + " " + k, asked.applyAsInt(k), want[k]);
    }

    private void wrong(String what) {
        good = false;
        System.out.println("'" + sentence + "': " + what);
    }

    /** The call is refused with this answer, and nothing has happened. */
    void refused(String call, Supplier<Pen> made, ToIntFunction<Pen> asked, int want) {
        unchanged(call, made, asked, want);
    }

    /** All is as in another object made alike of which it was not asked. */
    void unchanged(String call, Supplier<Pen> made, ToIntFunction<Pen> asked, int want) {
        due(call, asked.applyAsInt(made.get()), want);
        alike("after " + call, () -> {
            Pen p = made.get();
            asked.applyAsInt(p);
            return p;
        }, made);
    }

    /** Two objects made in two ways answer alike. */
    void alike(String what, Supplier<Pen> one, Supplier<Pen> other) {
        List<Integer> got = told(one.get());
        List<Integer> want = told(other.get());
        if (!got.equals(want)) wrong(what + " there is " + got + ", due is " + want);
        got = unwound(one.get());
        want = unwound(other.get());
        if (!got.equals(want)) wrong(what + " there was " + got + ", due is " + want);
    }

    /** What can be asked of an object without changing it. */
    private static List<Integer> told(Pen p) {
        List<Integer> l = new ArrayList<>();
        for (int k = 0; k <= 16; k++) l.add(p.count(k));
        for (int paper = 0; paper < 6; paper++) for (int k = 0; k <= 8; k++) l.add(p.paper(paper, k));
        for (int clerk = 0; clerk < 4; clerk++) for (int k = 0; k <= 3; k++) l.add(p.clerk(clerk, k));
        for (int k = 0; k <= 12; k++) l.add(p.orders(k));
        for (int k = 0; k <= 8; k++) l.add(p.plan(k));
        for (int rule = 0; rule < 6; rule++) for (int k = 2; k <= 8; k++) l.add(p.by(rule, k));
        for (int k = 0; k <= 1; k++) l.add(p.days(3, k));
        l.add(p.rings());
        l.add(p.blanks(0));
        return l;
    }

    /** What lies behind it: its ACTS undone one by one, its IMAGES, what the TAPE is. */
    private static List<Integer> unwound(Pen p) {
        List<Integer> l = new ArrayList<>();
        for (int n = 0; n <= 20; n++) {
            l.add(p.undo());
            for (int k = 7; k <= 11; k++) l.add(p.count(k));
            l.add(p.blanks(0));
        }
        for (int image = 0; image < 4; image++) {
            l.add(p.back(image));
            for (int k = 0; k <= 15; k++) l.add(p.count(k));
        }
        l.add(p.office());
        for (int k = 0; k <= 16; k++) l.add(p.count(k));
        return l;
    }

    /** Says how many cases there were, and ends the program with 1 if one failed. */
    void finish() {
        close();
        System.out.println(passed + " passed, " + failed + " failed");
        if (failed != 0 || passed == 0) System.exit(1);
    }
}
