/** Promises 35 and 36: drawn, odds, against the document's words done one by one by other calls. */
public final class DrawnTest {
    private static final Checks c = new Checks();
    private static int x;

    private static int draw(int n) {
        x = x * 1103515245 + 12345;
        return (x >>> 8) % n;
    }

    /** The same by forfeit(), buy(), repay() and weeks(). */
    static void byHand(MerryDuchy d, int weeks, int seed) {
        int men = d.count(0);
        int forfeits = d.count(1);
        int goods = d.count(2);
        x = seed;
        for (int w = 0; w < weeks; w++) {
            for (int m = 0; m < men; m++) {
                switch (draw(4)) {
                    case 1:
                        if (forfeits > 0) {
                            d.forfeit(m, draw(forfeits));
                        }
                        break;
                    case 2:
                        if (goods > 0) {
                            d.buy(m, draw(goods));
                        }
                        break;
                    case 3:
                        d.repay(m, draw(men), 1);
                        break;
                    default:
                        break;
                }
            }
            d.weeks(1);
        }
    }

    static void same(Checks c, String when, MerryDuchy a, MerryDuchy b) {
        for (int what = 0; what < 6; what++) {
            c.due(when + ": now(" + what + ")", a.now(what), b.now(what));
        }
        for (int m = 0; m < b.count(0); m++) {
            for (int what = 0; what < 8; what++) {
                c.due(when + ": man(" + m + ", " + what + ")", a.man(m, what), b.man(m, what));
            }
            for (int k = 0; k < 6; k++) {
                c.due(when + ": owes", a.owes(m, k), b.owes(m, k));
                c.due(when + ": times", a.times(m, k), b.times(m, k));
                c.due(when + ": bought", a.bought(m, k), b.bought(m, k));
            }
        }
        for (int g = 0; g < 6; g++) {
            c.due(when + ": STOCK", a.good(g, 1), b.good(g, 1));
        }
    }

    public static void main(String[] args) {
        String[] texts = {
            "man a 30;man b 20;man e 9;forfeit f 5;forfeit g 2;forfeit h 0;good x 2 3;good y 6 2;owes a b 5;owes e a 3;wears 1;mends 1;",
            "man a 30;man b 20;forfeit f 5;",
            "man a 30;good x 1 1;",
            "man a 3;",
            "man a 99;man b 99;man e 99;man g 99;man h 99;man i 99;forfeit f 20;good x 1 20;owes a b 9;owes b e 9;owes e g 9;"
                    + "owes g h 9;owes h i 9;owes i a 9;wears 0;mends 9;"};
        int[] seeds = {0, 1, 7, -1, -5, 123456789, Integer.MAX_VALUE, Integer.MIN_VALUE};
        for (String text : texts) {
            for (int seed : seeds) {
                MerryDuchy a = Checks.of(text);
                MerryDuchy b = Checks.of(text);
                c.due("drawn(40)", a.drawn(40, seed), 40);
                byHand(b, 40, seed);
                same(c, text + " by " + seed, a, b);
                MerryDuchy before = Checks.of(text);
                c.due("undo drawn", a.undo(), 0);
                same(c, "undone", a, before);
            }
            odds(text, 5);
            odds(text, Integer.MAX_VALUE - 3);
        }
        for (int seed = 0; seed < 20; seed++) {
            odds("man a 99;man b 99;forfeit f 3;good x " + (9 + seed) + " 9;wears 0;mends 1;", 31 * seed);
        }
        limits();
        c.end("DrawnTest");
    }

    private static void odds(String text, int seed) {
        MerryDuchy d = Checks.of(text);
        d.drawn(2, 99);
        MerryDuchy same = Checks.of(text);
        same.drawn(2, 99);
        for (int n = 1; n <= 30; n += 29) {
            for (int m = 0; m < d.count(0); m++) {
                int due = 0;
                for (int i = 0; i < n; i++) {
                    MerryDuchy e = Checks.of(text);
                    e.drawn(2, 99);
                    e.drawn(20, seed + i);
                    due += e.man(m, 5) != 0 ? 1 : 0;
                }
                c.due("odds(" + m + ", " + n + ", " + seed + ") of " + text, d.odds(m, n, seed), due);
            }
        }
        DrawnTest.same(c, "all stays", d, same);
        c.due("odds can't be undone", d.undo(), 0);
    }

    private static void limits() {
        MerryDuchy d = Checks.of("man a 9;forfeit f 1;good x 1 1;wears 0;");
        c.due("drawn(0)", d.drawn(0, 1), -1);
        c.due("drawn(61)", d.drawn(61, 1), -1);
        c.due("drawn(-1)", d.drawn(-1, 1), -1);
        c.due("no MEN", new MerryDuchy().drawn(1, 1), -1);
        c.due("odds of no MAN", d.odds(1, 1, 1), -1);
        c.due("odds of no MAN", d.odds(-1, 1, 1), -1);
        c.due("odds of 0", d.odds(0, 0, 1), -1);
        c.due("odds of 31", d.odds(0, 31, 1), -1);
        d.weeks(60);
        d.weeks(60);
        d.weeks(60);
        c.due("drawn as far as there are WEEKS", d.drawn(60, 1), 20);
        c.due("WEEK", d.now(0), 200);
        c.due("he bought it", d.bought(0, 0), 1);
        c.due("all are over", d.drawn(1, 1), 0);
        c.due("he has it already", d.odds(0, 30, 1), 30);
        c.due("what did not go by is not undone", d.undo(), 3);
        c.due("WEEK", d.now(0), 180);
        d.weeks(20);
        c.due("no WEEK is left", d.odds(0, 30, 1), 0);
        d.undo();
        d.weeks(19);
        int due = 0;
        for (int i = 0; i < 30; i++) {
            d.drawn(1, i);
            due += d.man(0, 5);
            d.undo();
        }
        c.due("one WEEK is left", d.odds(0, 30, 0), due);
    }
}
