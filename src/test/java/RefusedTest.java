/**
 * Each call that the document lets be refused, by promise: its answer, and that nothing is changed by it. Texts with a
 * FAULT are in TextEdgesTest; what lies just inside the bounds is in ActEdgesTest and AskEdgesTest.
 */
public final class RefusedTest {
    private static final Checks c = new Checks();
    /** No MAN, FORFEIT or GOOD of the twins: the last number below and the first above, and far ones. */
    private static final int[] NO_SUCH = {-1, 3, 6, 32, Integer.MIN_VALUE, Integer.MAX_VALUE};
    private static final int LEAST = Integer.MIN_VALUE;
    private static final int MOST = Integer.MAX_VALUE;

    public static void main(String[] args) {
        twins();
        tape();
        throwing();
        ofMenAndOthers();
        byWhat();
        doing();
        buying();
        lending();
        repaying();
        striking();
        weeks();
        undoing();
        rings();
        plans();
        fitting();
        sharing();
        taxing();
        listing();
        drawing();
        books();
        saying();
        images();
        c.end("RefusedTest");
    }

    /** What the other tests here lean on: the twins hold something of each kind. */
    private static void twins() {
        MerryDuchy d = Twins.lived();
        c.due("twins: fault()", d.fault(), Twins.FAULT);
        c.due("twins: said(-1)", d.said(-1), 2);
        c.due("twins: ringAt(1)", d.ringAt(1), 1);
        c.due("twins: planned(0)", d.planned(0), 6);
        c.due("twins: taxOf(0)", d.taxOf(0), 0);
        c.due("twins: tells()", d.tells(), 0);
        c.due("twins: byteAt(0)", d.byteAt(0), 'b');
        c.due("twins: told(0)", d.told(0), 1);
        c.due("twins: told(2)", d.told(2), 3);
        c.due("twins: the BOOK on the tape", d.book(0), -1);
        c.due("twins: its WEEKS", d.told(2), 33);
        c.due("twins: undo()", d.undo(), 4);
        c.due("twins: restore(1)", d.restore(1), true);
        c.due("twins: an image's WEEK", d.now(0), 2);
    }

    /** Promise 2: «NONE, and none come, if it would have more than 940»; 3: «false, if it has not so many, or n is below 0». */
    private static void tape() {
        for (int bytes : new int[] {921, 930, 940}) {
            Twins.refusesBehind(c, d -> Checks.tape(d, Checks.blanks(bytes)), "feed() behind " + bytes, -1, d -> d.feed(1, 2, 3, 4, 5));
        }
        for (int n : new int[] {-1, 9, 20, 941, LEAST, MOST}) {
            Twins.refuses(c, "end(" + n + ")", 0, d -> d.end(n) ? 1 : 0);
        }
    }

    /** Promise 6: «NoSuchElementException: no such ones»; «A call that throws changes nothing.» */
    private static void throwing() {
        for (int no : NO_SUCH) {
            for (int what = 0; what < 8; what++) {
                int asked = what;
                Twins.refuses(c, "man(" + no + ", " + what + ")", Twins.THROWN, d -> Twins.man(d, no, asked));
            }
        }
        for (int what : new int[] {-1, 8, LEAST, MOST}) {
            Twins.refuses(c, "man(0, " + what + ")", Twins.THROWN, d -> Twins.man(d, 0, what));
            Twins.refuses(c, "man(3, " + what + ")", Twins.THROWN, d -> Twins.man(d, 3, what));
        }
    }

    /** Promises 7 to 9, 11, 24, 25: «NONE: no such ones». */
    private static void ofMenAndOthers() {
        for (int no : NO_SUCH) {
            Twins.refuses(c, "cost(" + no + ", 0)", -1, d -> d.cost(no, 0));
            Twins.refuses(c, "cost(0, " + no + ")", -1, d -> d.cost(0, no));
            Twins.refuses(c, "times(" + no + ", 0)", -1, d -> d.times(no, 0));
            Twins.refuses(c, "times(0, " + no + ")", -1, d -> d.times(0, no));
            Twins.refuses(c, "bought(" + no + ", 0)", -1, d -> d.bought(no, 0));
            Twins.refuses(c, "bought(0, " + no + ")", -1, d -> d.bought(0, no));
            Twins.refuses(c, "owes(" + no + ", 0)", -1, d -> d.owes(no, 0));
            Twins.refuses(c, "owes(0, " + no + ")", -1, d -> d.owes(0, no));
            Twins.refuses(c, "lasts(" + no + ", 0)", -1, d -> d.lasts(no, 0));
            Twins.refuses(c, "lasts(0, " + no + ")", -1, d -> d.lasts(0, no));
            Twins.refuses(c, "worth(" + no + ", 0)", -1, d -> d.worth(no, 0));
            Twins.refuses(c, "worth(0, " + no + ")", -1, d -> d.worth(0, no));
        }
    }

    /** Promises 10, 12, 38, 43: «NONE: no such ones», «NONE for another what». */
    private static void byWhat() {
        for (int no : NO_SUCH) {
            Twins.refuses(c, "good(" + no + ", 0)", -1, d -> d.good(no, 0));
            Twins.refuses(c, "good(" + no + ", 1)", -1, d -> d.good(no, 1));
        }
        for (int what : new int[] {-1, 2, LEAST, MOST}) {
            Twins.refuses(c, "good(0, " + what + ")", -1, d -> d.good(0, what));
        }
        for (int what : new int[] {-1, 6, LEAST, MOST}) {
            Twins.refuses(c, "now(" + what + ")", -1, d -> d.now(what));
            Twins.refuses(c, "count(" + what + ")", -1, d -> d.count(what));
        }
        for (int what : new int[] {-1, 4, LEAST, MOST}) {
            Twins.refuses(c, "told(" + what + ")", -1, d -> d.told(what));
        }
    }

    /** Promise 13: «-2, -3: 1, 2 why not; NONE: no such ones». */
    private static void doing() {
        for (int no : NO_SUCH) {
            Twins.refuses(c, "forfeit(" + no + ", 0)", -1, d -> d.forfeit(no, 0));
            Twins.refuses(c, "forfeit(0, " + no + ")", -1, d -> d.forfeit(0, no));
        }
        Twins.refuses(c, "forfeit() of COST 0", -2, d -> d.forfeit(0, 2));
        Twins.refuses(c, "forfeit() above his PRIDE", -3, d -> d.forfeit(2, 1));
    }

    /** Promise 14: «0, or why not; NONE: no such ones». */
    private static void buying() {
        for (int no : NO_SUCH) {
            Twins.refuses(c, "buy(" + no + ", 0)", -1, d -> d.buy(no, 0));
            Twins.refuses(c, "buy(0, " + no + ")", -1, d -> d.buy(0, no));
        }
        Twins.refuses(c, "buy() of no STOCK", 1, d -> d.buy(0, 2));
        Twins.refuses(c, "buy() of no STOCK, without CREDIT", 1, d -> d.buy(2, 2));
        Twins.refuses(c, "buy() above his CREDIT", 2, d -> d.buy(0, 1));
    }

    /** Promise 15: «n (1 to 99)», «0, or why not; NONE: no such ones». */
    private static void lending() {
        for (int no : NO_SUCH) {
            Twins.refuses(c, "lend(" + no + ", 0, 1)", -1, d -> d.lend(no, 0, 1));
            Twins.refuses(c, "lend(0, " + no + ", 1)", -1, d -> d.lend(0, no, 1));
        }
        for (int n : new int[] {0, -1, 100, LEAST, MOST}) {
            Twins.refuses(c, "lend(0, 1, " + n + ")", -1, d -> d.lend(0, 1, n));
            Twins.refuses(c, "lend(0, 0, " + n + ")", -1, d -> d.lend(0, 0, n));
        }
        Twins.refuses(c, "lend() to himself", 1, d -> d.lend(0, 0, 1));
        Twins.refuses(c, "lend() to himself above his CREDIT", 1, d -> d.lend(0, 0, 99));
        Twins.refuses(c, "lend() above his CREDIT", 2, d -> d.lend(0, 1, 99));
    }

    /** Promise 16: the same of REPAYING. */
    private static void repaying() {
        for (int no : NO_SUCH) {
            Twins.refuses(c, "repay(" + no + ", 0, 1)", -1, d -> d.repay(no, 0, 1));
            Twins.refuses(c, "repay(0, " + no + ", 1)", -1, d -> d.repay(0, no, 1));
        }
        for (int n : new int[] {0, -1, 100, LEAST, MOST}) {
            Twins.refuses(c, "repay(0, 1, " + n + ")", -1, d -> d.repay(0, 1, n));
        }
        Twins.refuses(c, "repay() more than he owes", 1, d -> d.repay(0, 1, 6));
        Twins.refuses(c, "repay() to himself", 1, d -> d.repay(0, 0, 1));
        Twins.refuses(c, "repay() above his CREDIT", 2, d -> d.repay(0, 1, 5));
    }

    private static void strikeAll(MerryDuchy d) {
        for (int i = 0; i < 6; i++) {
            d.strike();
        }
    }

    /** Promise 17: «NONE: there is none». */
    private static void striking() {
        Twins.refusesBehind(c, RefusedTest::strikeAll, "strike() without a RING", -1, MerryDuchy::strike);
    }

    private static void allWeeks(MerryDuchy d) {
        for (int i = 0; i < 4; i++) {
            d.weeks(60);
        }
    }

    /** Promise 18: «NONE: not as told»; «200: all are over». */
    private static void weeks() {
        for (int n : new int[] {0, -1, 61, LEAST, MOST}) {
            Twins.refuses(c, "weeks(" + n + ")", -1, d -> d.weeks(n));
        }
        for (int n : new int[] {1, 60}) {
            Twins.refusesBehind(c, RefusedTest::allWeeks, "weeks(" + n + ") when all are over", 0, d -> d.weeks(n));
        }
    }

    private static void undoAll(MerryDuchy d) {
        for (int i = 0; i < 8; i++) {
            d.undo();
        }
    }

    /** Promise 19: «NONE: none is». */
    private static void undoing() {
        Twins.refusesBehind(c, RefusedTest::undoAll, "undo() of nothing", -1, MerryDuchy::undo);
        Twins.refusesBehind(c, d -> d.restore(1), "undo() behind restore()", -1, MerryDuchy::undo);
    }

    /** Promises 20, 21: «NONE: there is none», «NONE: none such», «by the latest ring() that was not NONE». */
    private static void rings() {
        Twins.refusesBehind(c, RefusedTest::strikeAll, "ring() without one", -1, MerryDuchy::ring);
        for (int k : NO_SUCH) {
            Twins.refuses(c, "ringAt(" + k + ")", -1, d -> d.ringAt(k));
        }
    }

    /** Promises 22, 23: «w (0 to 200)», «NONE: it can't be, no such ones», «by the latest plan() that was not NONE». */
    private static void plans() {
        for (int no : NO_SUCH) {
            Twins.refuses(c, "plan(" + no + ", 1)", -1, d -> d.plan(no, 1));
            Twins.refuses(c, "planned(" + no + ")", -1, d -> d.planned(no));
        }
        for (int w : new int[] {-1, 201, LEAST, MOST}) {
            Twins.refuses(c, "plan(0, " + w + ")", -1, d -> d.plan(0, w));
        }
        Twins.refuses(c, "plan() above his PRIDE", -1, d -> d.plan(2, 5));
        Twins.refuses(c, "plan() of 200", -1, d -> d.plan(0, 200));
    }

    /** Promises 27, 28: «1 to 10 of them», «NONE: not as told», «by the latest fits() above 0». */
    private static void fitting() {
        Twins.refusesPairs(c, "fits() of an empty tape", -1);
        Twins.refusesPairs(c, "fits() of half a pair", -1, 1);
        Twins.refusesPairs(c, "fits() of a pair and a half", -1, 1, 9, 1);
        Twins.refusesPairs(c, "fits() of ten pairs and a half", -1, new int[21]);
        Twins.refusesPairs(c, "fits() of eleven pairs", -1, 1, 9, 1, 7, 1, 5, 1, 3, 1, 1, 1, 1, 1, 1, 1, 1, 1, 1, 1, 1, 1, 1);
        Twins.refusesPairs(c, "fits() of no such FORFEIT", -1, 3, 9);
        Twins.refusesPairs(c, "fits() of no such FORFEIT in the second pair", -1, 1, 9, 6, 9);
        Twins.refusesPairs(c, "fits() of FORFEIT 255", -1, 255, 9);
        Twins.refusesPairs(c, "fits() of nobody", 0, 1, 10);
        Twins.refusesPairs(c, "fits() of who minds it 0", 0, 2, 0);
    }

    /** Promise 29: «n (0 to 999)», «NONE: he is none of them, no such ones». */
    private static void sharing() {
        for (int no : NO_SUCH) {
            Twins.refuses(c, "share(9, 7, " + no + ")", -1, d -> d.share(9, 7, no));
        }
        for (int n : new int[] {-1, 1000, LEAST, MOST}) {
            Twins.refuses(c, "share(" + n + ", 7, 0)", -1, d -> d.share(n, 7, 0));
        }
        for (int set : new int[] {0, 6, 8, 9, 65, LEAST, LEAST | 1, -1, MOST}) {
            Twins.refuses(c, "share(9, " + set + ", 0)", -1, d -> d.share(9, set, 0));
        }
    }

    /** Promises 30, 31: «t (0 to 200)», «NONE: it can't be, not as told», «by the latest tax() that was not NONE». */
    private static void taxing() {
        for (int t : new int[] {-1, 201, 200, LEAST, MOST}) {
            Twins.refuses(c, "tax(" + t + ")", -1, d -> d.tax(t));
        }
        for (int no : NO_SUCH) {
            Twins.refuses(c, "taxOf(" + no + ")", -1, d -> d.taxOf(no));
        }
    }

    /** Promises 33, 34: «NONE: no such one», «NONE: none such». */
    private static void listing() {
        for (int no : NO_SUCH) {
            Twins.refuses(c, "list(" + no + ")", -1, d -> d.list(no));
        }
        int length = "bob would jig for 1".length();
        for (int i : new int[] {-1, length, LEAST, MOST}) {
            Twins.refuses(c, "byteAt(" + i + ")", -1, d -> d.byteAt(i));
        }
    }

    /** Promises 35, 36: «n (1 to 60)», «NONE: not as told, no MEN»; «n (1 to 30)», «NONE: no such ones». */
    private static void drawing() {
        for (int n : new int[] {0, -1, 61, LEAST, MOST}) {
            Twins.refuses(c, "drawn(" + n + ", 1)", -1, d -> d.drawn(n, 1));
        }
        Twins.refusesBehind(c, RefusedTest::allWeeks, "drawn() when all are over", 0, d -> d.drawn(60, 1));
        Twins.refusesBehind(c, d -> Checks.duchy(d, "forfeit f 1;good g 1 1;"), "drawn() of no MEN", -1, d -> d.drawn(1, 1));
        for (int no : NO_SUCH) {
            Twins.refuses(c, "odds(" + no + ", 1, 1)", -1, d -> d.odds(no, 1, 1));
        }
        for (int n : new int[] {0, -1, 31, LEAST, MOST}) {
            Twins.refuses(c, "odds(0, " + n + ", 1)", -1, d -> d.odds(0, n, 1));
        }
        Twins.refuses(c, "odds() of one who has a GOOD by now", 30, d -> d.odds(0, 30, 1));
    }

    /** Promise 37: «-1000: another lives (the tape stays)»; 5: «a book() of -1000 leaves it». */
    private static void books() {
        for (int lives : new int[] {-1, 2, LEAST, MOST}) {
            Twins.refuses(c, "book(" + lives + ")", -1000, d -> d.book(lives));
        }
    }

    /** Promise 40: «NONE: there is no SENTENCE, none such». */
    private static void saying() {
        for (int k : new int[] {-2, 2, 6, LEAST, MOST}) {
            Twins.refuses(c, "said(" + k + ")", -1, d -> d.said(k));
        }
        Twins.refusesBehind(c, d -> d.restore(0), "said(-1) without a SENTENCE", -1, d -> d.said(-1));
        Twins.refusesBehind(c, d -> d.restore(0), "said(0) without a SENTENCE", -1, d -> d.said(0));
    }

    /** Promises 41, 42: «false: no such one, or nothing is kept there». */
    private static void images() {
        for (int k : new int[] {-1, 2, LEAST, MOST}) {
            Twins.refuses(c, "image(" + k + ")", 0, d -> d.image(k) ? 1 : 0);
            Twins.refuses(c, "restore(" + k + ")", 0, d -> d.restore(k) ? 1 : 0);
        }
        MerryDuchy d = Checks.of("man a 5;");
        d.weeks(3);
        d.image(1);
        d.weeks(4);
        c.due("restore(0) of nothing", d.restore(0), false);
        c.due("the WEEK stays", d.now(0), 7);
        c.due("what was done can be undone", d.undo(), 1);
        c.due("restore(1)", d.restore(1), true);
    }
}
