import java.util.function.IntPredicate;

/**
 * The edges of BOOKS lived and judged, of what is said, of images and counts (promises 37 to 43), one by one, on both
 * sides: the last that can be and the first that can't. The bounds of the texts are in TextEdgesTest.
 */
public final class KeptEdgesTest {
    private static final Checks c = new Checks();
    private static final String DUCHY = "man a 9;man b 4;forfeit f 5;forfeit o 0;good x 5 1;good z 1 0;owes a b 5;wears 0;";

    public static void main(String[] args) {
        whyWrong();
        wrongLines();
        livedAsFar();
        judged();
        weeksLeft();
        anotherLives();
        toldOfTheLatest();
        signsOfOnes();
        plainOnes();
        orAndNot();
        saidOfWhom();
        sentenceStays();
        allTwentyOnes();
        places();
        restored();
        counts();
        c.end("KeptEdgesTest");
    }

    private static void told(MerryDuchy d, String when, int... due) {
        for (int what = 0; what < 4; what++) {
            c.due(when + ": told(" + what + ")", d.told(what), due[what]);
        }
        c.due(when + ": told(4)", d.told(4), -1);
        c.due(when + ": told(-1)", d.told(-1), -1);
    }

    /** The last LINE of a BOOK is WRONG for this; without it nothing is. */
    private static void wrong(String ahead, String line, int why) {
        int lines = ahead.isEmpty() ? 0 : ahead.split(";").length;
        for (int lives = 0; lives < 2; lives++) {
            MerryDuchy d = Checks.of(DUCHY);
            c.due("book '" + ahead + "'", Checks.book(d, ahead, 0), -1);
            c.due("why '" + ahead + "'", d.told(0), 0);
            c.due("LINES of '" + ahead + "'", d.told(1), lines);
            c.due("book '" + ahead + line + "'", Checks.book(d, ahead + line, lives), lines);
            c.due("why '" + line + "'", d.told(0), why);
            c.due("LINES that are not", d.told(1), lines);
        }
    }

    /** Promise 38: «as for doing, 10 more as for buying, 20 for lending, 30 for repaying, 40 for striking; 51: fewer WEEKS are left» */
    private static void whyWrong() {
        wrong("", "a does o;", 1);
        wrong("a does f;", "a does f;", 2);
        wrong("", "b does f;", 2);
        wrong("a does f;a buys x;", "a buys x;", 11);
        wrong("", "a buys z;", 11);
        wrong("", "a buys x;", 12);
        wrong("a does f;a lends b 1;", "a buys x;", 12);
        wrong("", "a lends a 1;", 21);
        wrong("a does f;", "a lends b 6;", 22);
        wrong("a does f;a lends b 5;", "a lends b 1;", 22);
        wrong("a does f;", "a repays b 6;", 31);
        wrong("a does f;a repays b 5;", "a repays b 1;", 31);
        wrong("", "a repays b 5;", 32);
        wrong("a does f;a lends b 1;", "a repays b 5;", 32);
        wrong("", "strike;", 41);
        wrong("a does f;a lends b 1;strike;", "strike;", 41);
        wrong("week 60;week 60;week 60;week 20;", "week 1;", 51);
        wrong("week 60;week 60;week 60;", "week 21;", 51);
    }

    /** Promise 37: «the LINE that is WRONG; NONE: none»: the first of them, LINES numbered from 0 as all else is. */
    private static void wrongLines() {
        MerryDuchy d = Checks.of(DUCHY);
        c.due("none", Checks.book(d, "week 1;", 0), -1);
        c.due("the first LINE", Checks.book(d, "strike;week 1;", 0), 0);
        c.due("the second LINE", Checks.book(d, "week 1;strike;", 0), 1);
        c.due("the first of two", Checks.book(d, "week 1;strike;a does o;", 0), 1);
        c.due("its why", d.told(0), 41);
        c.due("the last of forty", Checks.book(d, "week 1;".repeat(39) + "strike;", 0), 39);
        c.due("LINES that are not", d.told(1), 39);
    }

    /** Promise 37: «lived as far as it is not WRONG (1)» */
    private static void livedAsFar() {
        MerryDuchy d = Checks.of(DUCHY);
        c.due("book(1)", Checks.book(d, "a does f;week 2;strike;week 3;", 1), 2);
        c.due("WEEK", d.now(0), 2);
        c.due("CREDIT", d.now(2), 5);
        told(d, "lived", 41, 2, 2, 5);
        c.due("all of it is undone at once", d.undo(), 0);
        c.due("WEEK", d.now(0), 0);
        c.due("CREDIT", d.now(2), 0);
        told(d, "told of it stays", 41, 2, 2, 5);
        c.due("an empty one", Checks.book(d, "", 1), -1);
        told(d, "an empty one", 0, 0, 0, 0);
    }

    /** Promise 37: «it is judged, all staying as it is (lives 0)» */
    private static void judged() {
        MerryDuchy d = Twins.lived();
        MerryDuchy same = Twins.lived();
        c.due("book(0)", Checks.book(d, "ann does jig;week 9;ann lends bob 1;strike;strike;strike;", 0), 5);
        c.due("why", d.told(0), 41);
        c.due("the WEEK then", d.told(2), 12);
        DrawnTest.same(c, "judged", d, same);
        c.due("the SENTENCE stays", d.said(-1), same.said(-1));
        c.due("the tape is empty", d.count(5), 0);
        c.due("what can be undone", d.undo(), same.undo());
    }

    /** «51: fewer WEEKS are left» */
    private static void weeksLeft() {
        for (int n = 1; n <= 60; n++) {
            MerryDuchy d = new MerryDuchy();
            for (int i = 0; i < 3; i++) {
                d.weeks(60);
            }
            c.due("week " + n + " of 20", Checks.book(d, "week " + n + ";", 1), n <= 20 ? -1 : 0);
            told(d, "week " + n + " of 20", n <= 20 ? 0 : 51, n <= 20 ? 1 : 0, n <= 20 ? 180 + n : 180, 0);
            c.due("all or none of them go", d.now(0), n <= 20 ? 180 + n : 180);
        }
    }

    /** Promise 37: «-1000: another lives (the tape stays)» */
    private static void anotherLives() {
        MerryDuchy d = Checks.of(DUCHY);
        Checks.tape(d, "week 7;");
        for (int lives : new int[] {-1, 2, 3, Integer.MIN_VALUE, Integer.MAX_VALUE}) {
            c.due("book(" + lives + ")", d.book(lives), -1000);
            c.due("the tape stays", d.count(5), 7);
            c.due("nothing is told", d.told(0), -1);
        }
        c.due("it is a BOOK still", d.book(1), -1);
        c.due("WEEK", d.now(0), 7);
        c.due("the tape is empty", d.count(5), 0);
        Checks.tape(d, ".");
        c.due("another lives comes ahead of a FAULT", d.book(2), -1000);
        c.due("the FAULT", d.book(1), -2);
    }

    /** Promise 38: «Of the latest book() that had no FAULT (and was not -1000)», «NONE: another what, or ahead of any» */
    private static void toldOfTheLatest() {
        MerryDuchy d = Checks.of(DUCHY);
        told(d, "ahead of any", -1, -1, -1, -1);
        Checks.book(d, "week", 1);
        told(d, "behind a FAULT", -1, -1, -1, -1);
        Checks.book(d, "a does f;week 3;strike;", 1);
        told(d, "lived", 41, 2, 3, 5);
        Checks.book(d, "week 1;zed", 1);
        told(d, "a FAULT leaves it", 41, 2, 3, 5);
        Checks.book(d, "week 1;", 2);
        told(d, "-1000 leaves it", 41, 2, 3, 5);
        d.weeks(2);
        told(d, "then, not now", 41, 2, 3, 5);
        Checks.duchy(d, "");
        told(d, "a new DUCHY leaves it", 41, 2, 3, 5);
        Checks.book(d, "", 0);
        told(d, "the latest", 0, 0, 0, 0);
    }

    /** How many MEN of six, of PRIDE 0, 1, .. 5, a SENTENCE may be said of. */
    private static int said(String text) {
        MerryDuchy d = Checks.of("man a 0;man b 1;man e 2;man g 3;man h 4;man i 5;forfeit f 1;owes a b 1;owes b e 2;owes e g 3;"
                + "owes g h 4;owes h i 5;");
        c.due("ONES of '" + text + "'", Checks.sentence(d, text), 1);
        return d.said(-1);
    }

    /** «SIGN: < = >», of PRIDE, debts, his number and CREDIT, just at it. */
    private static void signsOfOnes() {
        for (int n = 0; n <= 7; n++) {
            c.due("pride<" + n, said("pride<" + n), Math.min(n, 6));
            c.due("pride=" + n, said("pride=" + n), n < 6 ? 1 : 0);
            c.due("pride>" + n, said("pride>" + n), Math.max(5 - n, 0));
            c.due("number<" + n, said("number<" + n), Math.min(n, 6));
            c.due("number=" + n, said("number=" + n), n < 6 ? 1 : 0);
            c.due("number>" + n, said("number>" + n), Math.max(5 - n, 0));
            // they owe 1, 2, 3, 4, 5 and nothing
            c.due("debts<" + n, said("debts<" + n), Math.min(n, 6));
            c.due("debts=" + n, said("debts=" + n), n < 6 ? 1 : 0);
            c.due("debts>" + n, said("debts>" + n), Math.max(5 - n, 0));
        }
        c.due("credit<0", said("credit<0"), 0);
        c.due("credit=0", said("credit=0"), 6);
        c.due("credit>0", said("credit>0"), 0);
        c.due("credit<1", said("credit<1"), 6);
    }

    /** «'proud' (his PRIDE is as told) | 'owing' MAN (he owes that one something) | 'has' GOOD | 'did' FORFEIT» */
    private static void plainOnes() {
        MerryDuchy d = Checks.of("man a 9;man b 9;forfeit f 5;forfeit h 1;good x 4 1;good y 1 1;owes a b 1;wears 0;mends 5;");
        String[] texts = {"proud", "owing b", "owing a", "has x", "has y", "did f", "did h"};
        int[] fresh = {2, 1, 0, 0, 0, 0, 0};
        int[] later = {1, 0, 0, 1, 0, 1, 0};
        int[] mended = {2, 0, 0, 1, 0, 1, 0};
        for (int i = 0; i < texts.length; i++) {
            Checks.sentence(d, texts[i]);
            c.due("new: " + texts[i], d.said(-1), fresh[i]);
        }
        d.forfeit(0, 0);
        d.repay(0, 1, 1);
        d.buy(0, 0);
        for (int i = 0; i < texts.length; i++) {
            Checks.sentence(d, texts[i]);
            c.due("later: " + texts[i], d.said(-1), later[i]);
        }
        d.weeks(1);
        for (int i = 0; i < texts.length; i++) {
            Checks.sentence(d, texts[i]);
            c.due("mended: " + texts[i], d.said(-1), mended[i]);
        }
        MerryDuchy none = Checks.of("man a 0;");
        Checks.sentence(none, "proud");
        c.due("PRIDE 0 as told", none.said(-1), 1);
    }

    /** «COND: ALL { 'or' ALL }. ALL: ONE { 'and' ONE }. ONE: 'not' ONE | ( COND )» against all eight cases of three. */
    private static void orAndNot() {
        // the eight cases are MEN: p is number's bit 0, q bit 1, r bit 2, of the six that there may be
        String p = "(number=1 or number=3 or number=5)";
        String q = "(number=2 or number=3)";
        String r = "number>3";
        joined(p + " or " + q + " and " + r, m -> bit(m, 0) || bit(m, 1) && bit(m, 2));
        joined(p + " and " + q + " or " + r, m -> bit(m, 0) && bit(m, 1) || bit(m, 2));
        joined("(" + p + " or " + q + ")and " + r, m -> (bit(m, 0) || bit(m, 1)) && bit(m, 2));
        joined("not " + p + " and " + q, m -> !bit(m, 0) && bit(m, 1));
        joined("not(" + p + " and " + q + ")", m -> !(bit(m, 0) && bit(m, 1)));
        joined("not " + p + " or " + q, m -> !bit(m, 0) || bit(m, 1));
        joined("not not " + p, m -> bit(m, 0));
        joined(p + " and not " + r, m -> bit(m, 0) && !bit(m, 2));
        joined(p + " or " + q + " or " + r, m -> bit(m, 0) || bit(m, 1) || bit(m, 2));
        joined(r + " and " + p + " or " + q + " and not " + p, m -> bit(m, 2) && bit(m, 0) || bit(m, 1) && !bit(m, 0));
    }

    private static boolean bit(int m, int i) {
        return (m >> i & 1) == 1;
    }

    private static void joined(String text, IntPredicate due) {
        MerryDuchy d = Checks.of("man a 0;man b 1;man e 2;man g 3;man h 4;man i 5;");
        c.due("no FAULT in '" + text + "'", Checks.sentence(d, text) > 0, true);
        int k = 0;
        for (int m = 0; m < 6; m++) {
            if (due.test(m)) {
                c.due("said(" + k + ") of '" + text + "'", d.said(k), m);
                k++;
            }
        }
        c.due("how many of '" + text + "'", d.said(-1), k);
        c.due("none behind", d.said(k), -1);
    }

    /** Promise 40: «how many (k NONE), or the k-th. NONE: there is no SENTENCE, none such.» */
    private static void saidOfWhom() {
        MerryDuchy d = Checks.of("man a 9;man b 9;man e 9;");
        c.due("no SENTENCE", d.said(-1), -1);
        c.due("no SENTENCE", d.said(0), -1);
        Checks.sentence(d, "number>0");
        c.due("how many", d.said(-1), 2);
        c.due("the first", d.said(0), 1);
        c.due("the last", d.said(1), 2);
        c.due("behind it", d.said(2), -1);
        c.due("below NONE", d.said(-2), -1);
        Checks.sentence(d, "number>2");
        c.due("of nobody", d.said(-1), 0);
        c.due("none such", d.said(0), -1);
        MerryDuchy nobody = new MerryDuchy();
        Checks.sentence(nobody, "not proud");
        c.due("no MEN", nobody.said(-1), 0);
        c.due("no MEN", nobody.said(0), -1);
    }

    /** Promise 39: «-1 less the place of a FAULT: it stays» */
    private static void sentenceStays() {
        MerryDuchy d = Checks.of("man a 9;man b 9;man e 9;");
        Checks.sentence(d, "number=1");
        c.due("a FAULT at its end", Checks.sentence(d, "number=0 or number=2 or"), -1 - 23);
        c.due("it stays", d.said(0), 1);
        c.due("it alone", d.said(-1), 1);
        c.due("the next one", Checks.sentence(d, "number=2"), 1);
        c.due("is the SENTENCE now", d.said(0), 2);
        d.weeks(1);
        d.undo();
        c.due("undo() leaves it", d.said(0), 2);
        Checks.sentence(d, "not number=0");
        Checks.sentence(d, "number=0");
        c.due("a shorter one behind a longer", d.said(0), 0);
        c.due("a shorter one behind a longer", d.said(-1), 1);
    }

    /** «20 ONES»: the last of them counts as much as the first. */
    private static void allTwentyOnes() {
        String text = "man a 9;man b 9;man e 9;good x 1 0;";
        MerryDuchy d = Checks.of(text);
        c.due("20 by 'or'", Checks.sentence(d, "has x or ".repeat(19) + "number=1"), 20);
        c.due("the last", d.said(0), 1);
        c.due("no other", d.said(-1), 1);
        c.due("20 by 'or'", Checks.sentence(d, "number=1" + " or has x".repeat(19)), 20);
        c.due("the first", d.said(0), 1);
        c.due("20 by 'and'", Checks.sentence(d, "proud and ".repeat(19) + "number=2"), 20);
        c.due("the last", d.said(0), 2);
        c.due("20 by both", Checks.sentence(d, "has x or " + "proud and ".repeat(18) + "number=2"), 20);
        c.due("the last", d.said(0), 2);
        c.due("20 with 'not'", Checks.sentence(d, "not proud or ".repeat(9) + "not number<2"), 20);
        c.due("the last", d.said(0), 2);
        c.due("no other", d.said(-1), 1);
    }

    /** Promises 41, 42: «kept in place k (0, 1): true; false: no such one», «or nothing is kept there» */
    private static void places() {
        MerryDuchy d = Checks.of("man a 9;");
        c.due("restore(0) of nothing", d.restore(0), false);
        c.due("restore(1) of nothing", d.restore(1), false);
        c.due("image(1)", d.image(1), true);
        c.due("restore(0) of nothing still", d.restore(0), false);
        d.weeks(5);
        c.due("image(0)", d.image(0), true);
        d.weeks(5);
        for (int k : new int[] {-1, 2, Integer.MIN_VALUE, Integer.MAX_VALUE}) {
            c.due("image(" + k + ")", d.image(k), false);
            c.due("restore(" + k + ")", d.restore(k), false);
        }
        c.due("WEEK", d.now(0), 10);
        c.due("restore(1)", d.restore(1), true);
        c.due("WEEK of place 1", d.now(0), 0);
        c.due("restore(0)", d.restore(0), true);
        c.due("WEEK of place 0", d.now(0), 5);
        c.due("restore(0) again", d.restore(0), true);
        d.weeks(1);
        c.due("image(0) over the other", d.image(0), true);
        d.weeks(1);
        d.restore(0);
        c.due("the later one", d.now(0), 6);
    }

    /** Promise 42: «the tape, and what other calls told last, stays; nothing can be undone» */
    private static void restored() {
        MerryDuchy d = Twins.lived();
        MerryDuchy same = Twins.lived();
        c.due("restore(0)", d.restore(0), true);
        DrawnTest.same(c, "as kept", d, Checks.of(Twins.DUCHY));
        c.due("no SENTENCE was kept", d.said(-1), -1);
        c.due("nothing can be undone", d.undo(), -1);
        c.due("fault()", d.fault(), same.fault());
        c.due("tells()", d.tells(), same.tells());
        for (int i = 0; i < 20; i++) {
            c.due("ringAt()", d.ringAt(i), same.ringAt(i));
            c.due("planned()", d.planned(i), same.planned(i));
            c.due("taxOf()", d.taxOf(i), same.taxOf(i));
            c.due("byteAt()", d.byteAt(i), same.byteAt(i));
            c.due("told()", d.told(i), same.told(i));
        }
        c.due("bytes of the tape", d.count(5), same.count(5));
        c.due("the tape's BOOK", d.book(1), -1);
        c.due("its WEEKS", d.now(0), 30);
        c.due("what is done then can be undone", d.undo(), 0);
        c.due("the image with a SENTENCE", d.restore(1), true);
        c.due("said", d.said(-1), 1);
        c.due("the DUCHY is kept too", Checks.duchy(d, "wears 7;"), 1);
        c.due("restore(1)", d.restore(1), true);
        c.due("wears", d.count(3), 2);
        c.due("MEN", d.count(0), 3);
    }

    /** Promise 43. */
    private static void counts() {
        MerryDuchy d = Checks.of("man a 1;man b 1;man e 1;forfeit f 1;good x 1 1;good y 1 1;wears 4;mends 5;");
        Checks.tape(d, "abc");
        int[] due = {3, 1, 2, 4, 5, 3, -1};
        for (int what = 0; what < due.length; what++) {
            c.due("count(" + what + ")", d.count(what), due[what]);
        }
        c.due("count(-1)", d.count(-1), -1);
    }
}
