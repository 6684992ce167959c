import java.util.NoSuchElementException;
import java.util.function.Consumer;
import java.util.function.ToIntFunction;

/**
 * Two objects made by the same calls: one is asked what is to be refused, then all that can be asked of either is
 * compared, what could be undone, what is kept in images and the tape among it. Each is used for fewer than 512 calls.
 */
final class Twins {
    static final String DUCHY = "man ann 30;man bob 20;man cat 4;forfeit jig 6;forfeit hop 9;forfeit sit 0;minds bob jig 2;"
            + "good hat 3 2;good cow 90 1;good pin 1 0;owes ann bob 5;owes bob cat 3;owes cat ann 4;wears 2;mends 3;";
    /** The kind of the FAULT that the twins were left with. */
    static final int FAULT = 3;
    static final int THROWN = -77;

    private final Checks c;
    private final String call;
    private final MerryDuchy one = lived();
    private final MerryDuchy other = lived();

    private Twins(Checks c, String call) {
        this.c = c;
        this.call = call;
    }

    /** Something of each kind that a call could spoil: acts to undo, images, a SENTENCE, and what was told last. */
    static MerryDuchy lived() {
        MerryDuchy d = Checks.of(DUCHY);
        d.image(0);
        Checks.sentence(d, "has hat or number>1");
        d.forfeit(0, 0);
        d.weeks(2);
        d.image(1);
        d.buy(0, 0);
        d.lend(0, 1, 1);
        Checks.book(d, "bob does jig;week 1;cat does sit;", 1);
        d.ring();
        d.plan(0, 10);
        d.tax(5);
        Checks.tape(d, 1, 9);
        d.fits();
        d.list(1);
        Checks.sentence(d, "has cat");
        Checks.tape(d, "week 30;");
        return d;
    }

    /** It answers as due, and nothing is changed by it. */
    static void refuses(Checks c, String call, int due, ToIntFunction<MerryDuchy> asked) {
        refusesBehind(c, d -> { }, call, due, asked);
    }

    /** The same behind other calls, made of both. */
    static void refusesBehind(Checks c, Consumer<MerryDuchy> ahead, String call, int due, ToIntFunction<MerryDuchy> asked) {
        Twins t = new Twins(c, call);
        ahead.accept(t.one);
        ahead.accept(t.other);
        c.due(call, asked.applyAsInt(t.one), due);
        t.due("fault()", t.one.fault(), t.other.fault());
        t.same();
        t.sameTape();
    }

    /** The same of a call that takes the tape, whose text has a FAULT of that kind: only the tape is empty then. */
    static void refusesText(Checks c, String text, int kind, int due, ToIntFunction<MerryDuchy> asked) {
        Twins t = new Twins(c, "'" + text + "'");
        Checks.tape(t.one, text);
        t.other.end(0);
        c.due(t.call, asked.applyAsInt(t.one), due);
        c.due(t.call + ": fault()", t.one.fault(), kind);
        c.due(t.call + ": bytes of the tape", t.one.count(5), 0);
        t.same();
    }

    /** The same of fits(), which leaves the FAULT as it was. */
    static void refusesPairs(Checks c, String call, int due, int... bytes) {
        Twins t = new Twins(c, call);
        Checks.tape(t.one, bytes);
        t.other.end(0);
        c.due(call, t.one.fits(), due);
        c.due(call + ": fault()", t.one.fault(), FAULT);
        c.due(call + ": bytes of the tape", t.one.count(5), 0);
        t.same();
    }

    private void due(String what, int got, int want) {
        c.due(call + " changed " + what, got, want);
    }

    private void same() {
        sameNow();
        sameTold();
        due("said(-1)", one.said(-1), other.said(-1));
        due("said(0)", one.said(0), other.said(0));
        due("bytes of the tape", one.count(5), other.count(5));
        for (int i = 0; i < 9; i++) {
            due("what can be undone", one.undo(), other.undo());
            due("the WEEK ahead", one.now(0), other.now(0));
            due("PRIDE ahead", one.now(1), other.now(1));
            due("CREDIT ahead", one.now(2), other.now(2));
        }
        for (int k = 1; k >= 0; k--) {
            due("an image", one.restore(k) ? 1 : 0, other.restore(k) ? 1 : 0);
            due("an image's WEEK", one.now(0), other.now(0));
            due("an image's PRIDE", one.now(1), other.now(1));
            due("an image's debts", one.now(3), other.now(3));
            due("an image's SENTENCE", one.said(-1), other.said(-1));
        }
    }

    private void sameNow() {
        for (int what = 0; what < 6; what++) {
            due("now(" + what + ")", one.now(what), other.now(what));
        }
        for (int what = 0; what < 5; what++) {
            due("count(" + what + ")", one.count(what), other.count(what));
        }
        for (int m = 0; m < 3; m++) {
            for (int what = 0; what < 8; what++) {
                due("man(" + m + ", " + what + ")", man(one, m, what), man(other, m, what));
            }
            for (int k = 0; k < 3; k++) {
                due("owes(" + m + ", " + k + ")", one.owes(m, k), other.owes(m, k));
                due("times(" + m + ", " + k + ")", one.times(m, k), other.times(m, k));
                due("bought(" + m + ", " + k + ")", one.bought(m, k), other.bought(m, k));
                due("cost(" + m + ", " + k + ")", one.cost(m, k), other.cost(m, k));
            }
        }
        for (int g = 0; g < 3; g++) {
            due("WORTH of " + g, one.good(g, 0), other.good(g, 0));
            due("STOCK of " + g, one.good(g, 1), other.good(g, 1));
        }
    }

    private void sameTold() {
        for (int i = 0; i < 4; i++) {
            due("ringAt(" + i + ")", one.ringAt(i), other.ringAt(i));
            due("planned(" + i + ")", one.planned(i), other.planned(i));
            due("taxOf(" + i + ")", one.taxOf(i), other.taxOf(i));
            due("told(" + i + ")", one.told(i), other.told(i));
        }
        due("tells()", one.tells(), other.tells());
        for (int i = 0; i < 20; i++) {
            due("byteAt(" + i + ")", one.byteAt(i), other.byteAt(i));
        }
    }

    /** Last of all, for the tape is read as a BOOK, which tells how many WEEKS stand on it. */
    private void sameTape() {
        due("the tape's text", one.book(0), other.book(0));
        due("the tape's FAULT", one.fault(), other.fault());
        due("the tape's WEEKS", one.told(2), other.told(2));
    }

    static int man(MerryDuchy d, int m, int what) {
        try {
            return d.man(m, what);
        } catch (NoSuchElementException e) {
            return THROWN;
        }
    }
}
