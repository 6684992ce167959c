/** Promises 37 and 38: book, told. */
public final class BookTest {
    private static final Checks c = new Checks();
    private static final String DUCHY = "man a 30;man b 20;man e 4;forfeit f 10;forfeit h 0;good x 4 1;good y 90 1;"
            + "owes a b 5;owes b a 3;wears 2;mends 3;";

    private static void told(MerryDuchy d, String when, int... due) {
        for (int what = 0; what < due.length; what++) {
            c.due(when + ": told(" + what + ")", d.told(what), due[what]);
        }
        c.due("told(4)", d.told(4), -1);
        c.due("told(-1)", d.told(-1), -1);
    }

    /** Judged, then lived: the LINE that is WRONG, and what is told. */
    private static MerryDuchy runs(String book, int wrong, int... due) {
        MerryDuchy d = Checks.of(DUCHY);
        c.due("judged " + book, Checks.book(d, book, 0), wrong);
        c.due("fault", d.fault(), 0);
        told(d, book, due);
        DrawnTest.same(c, "all stays by " + book, d, Checks.of(DUCHY));
        c.due("nothing to undo", d.undo(), -1);
        c.due("the tape is empty", d.count(5), 0);
        c.due("lived " + book, Checks.book(d, book, 1), wrong);
        told(d, book, due);
        c.due("WEEK", d.now(0), due[2]);
        c.due("CREDIT", d.now(2), due[3]);
        return d;
    }

    private static void at(String marked, int kind) {
        int place = marked.indexOf('|');
        faulty(marked.replace("|", ""), place, kind);
    }

    private static void faulty(String text, int place, int kind) {
        MerryDuchy d = Checks.of(DUCHY);
        for (int lives = 0; lives < 2; lives++) {
            c.due("book '" + text + "'", Checks.book(d, text, lives), -2 - place);
            c.due("fault of '" + text + "'", d.fault(), kind);
            c.due("nothing told", d.told(0), -1);
            c.due("the tape is empty", d.count(5), 0);
            c.due("nothing to undo", d.undo(), -1);
        }
        DrawnTest.same(c, "all stays by " + text, d, Checks.of(DUCHY));
    }

    public static void main(String[] args) {
        lives();
        wrongs();
        faults();
        lines();
        lengths();
        c.end("BookTest");
    }

    private static void lives() {
        runs("", -1, 0, 0, 0, 0);
        MerryDuchy d = runs("a does f;a does f; a buys x;\na lends b 6;a repays b 4;week 2;strike ;", -1, 0, 7, 2, 14);
        c.due("struck", d.owes(0, 1), 0);
        c.due("struck by 1", d.owes(1, 0), 8);
        c.due("PRIDE", d.man(0, 0), 18);
        c.due("CREDIT", d.man(0, 2), 4);
        c.due("CREDIT", d.man(1, 2), 10);
        c.due("undo all of it", d.undo(), 0);
        DrawnTest.same(c, "undone", d, Checks.of(DUCHY));
    }

    private static void wrongs() {
        runs("a does h;", 0, 1, 0, 0, 0);
        runs("week 1;e does f;", 1, 2, 1, 1, 0);
        runs("a does f;a buys x;a buys x;", 2, 11, 2, 0, 6);
        runs("a buys x;", 0, 12, 0, 0, 0);
        runs("a lends a 1;", 0, 21, 0, 0, 0);
        runs("a does f;a lends b 11;week 3;", 1, 22, 1, 0, 10);
        runs("a repays b 6;", 0, 31, 0, 0, 0);
        runs("a repays a 1;", 0, 31, 0, 0, 0);
        runs("a repays b 5;", 0, 32, 0, 0, 0);
        runs("strike;strike;", 1, 41, 1, 0, 0);
        runs("week 60;week 60;week 60;week 21;week 20;", 3, 51, 3, 180, 0);
        runs("week 60;week 60;week 60;week 20;week 1;", 4, 51, 4, 200, 0);
        MerryDuchy d = Checks.of(DUCHY);
        c.due("ahead of any", d.told(0), -1);
        Checks.tape(d, "week 1;");
        c.due("lives 2", d.book(2), -1000);
        c.due("lives -1", d.book(-1), -1000);
        c.due("the tape stays", d.count(5), 7);
        c.due("nothing told", d.told(1), -1);
        c.due("lived then", d.book(1), -1);
        told(d, "a week", 0, 1, 1, 0);
        Checks.book(d, "week", 1);
        c.due("fault", d.fault(), 1);
        told(d, "as of the one without a FAULT", 0, 1, 1, 0);
        d.book(7);
        c.due("the fault is left by -1000", d.fault(), 1);
        told(d, "as of the one that was not -1000", 0, 1, 1, 0);
        d.weeks(5);
        told(d, "then, not now", 0, 1, 1, 0);
        c.due("judged from now on", Checks.book(d, "week 2;", 0), -1);
        told(d, "as it would be", 0, 1, 8, 0);
        c.due("WEEK", d.now(0), 6);
    }

    private static void faults() {
        at("|;", 1);
        at("|man does f;", 1);
        at("|5;", 1);
        at("a |f;", 1);
        at("a |b;", 1);
        at("a |5;", 1);
        at("a |owes b 5;", 1);
        at("a does |;", 1);
        at("a does |5;", 1);
        at("a does |does;", 1);
        at("a does f", 1, 8);
        at("a does f  ", 1, 10);
        at("a does f |a does f;", 1);
        at("a lends b |;", 1);
        at("a lends b |f;", 1);
        at("week |;", 1);
        at("week |1000;", 1);
        at("strike |1;", 1);
        at("|(", 1);
        at("a lends b |0;", 2);
        at("a lends b |100;", 2);
        at("a repays b |0;", 2);
        at("a repays b |100;", 2);
        at("week |0;", 2);
        at("week |61;", 2);
        at("|z does f;", 3);
        at("|f does f;", 3);
        at("|x buys x;", 3);
        at("a does |x;", 3);
        at("a does |z;", 3);
        at("a does |a;", 3);
        at("a buys |f;", 3);
        at("a buys |z;", 3);
        at("a lends |x 1;", 3);
        at("a repays |z 1;", 3);
        at("week 60;week 60;week 60;week 60;a does |z;", 3);
    }

    private static void at(String text, int kind, int place) {
        faulty(text, place, kind);
    }

    private static void lines() {
        String forty = "week 1;".repeat(40);
        runs(forty, -1, 0, 40, 40, 0);
        at(forty + "|week 1;", 4);
        at(forty + "|strike", 4);
        at(forty + "|a ;", 4);
        at(forty + "|week 99;", 4);
        at(forty + "|z does f;", 3);
        at(forty + "|f;", 3);
        at(forty + "|;", 1);
        at(forty + "|does", 1);
        at(forty + "|99", 1);
    }

    private static void lengths() {
        runs("week 1;" + Checks.blanks(393), -1, 0, 1, 1, 0);
        faulty("week 1;" + Checks.blanks(394), 400, 1);
        faulty(Checks.blanks(396) + "week 1;", 400, 1);
        faulty(Checks.blanks(393) + "week 1;;", 400, 1);
        faulty(Checks.blanks(394) + "week 99;", 399, 2);
        faulty(Checks.blanks(394) + "week 1000;", 399, 1);
        faulty(Checks.blanks(399) + "zzzzzzz", 399, 3);
        faulty(Checks.blanks(399) + "zzzzzzzz", 399, 1);
        faulty("strike" + Checks.blanks(394), 400, 1);
    }
}
