/** A full DUCHY, 6 MEN, 6 FORFEITS and 6 GOODS: each call of the last ones, and of one more. */
public final class FullTest {
    private static final Checks c = new Checks();
    private static final String MEN = "man a 99;man b 99;man e 99;man g 99;man h 99;man i 99;";
    private static final String FORFEITS = "forfeit t 1;forfeit u 2;forfeit v 3;forfeit w 4;forfeit x 5;forfeit y 6;";
    private static final String GOODS = "good j 1 9;good k 1 9;good l 1 9;good m 1 9;good n 1 9;good o 1 9;";
    private static final String FULL = MEN + FORFEITS + GOODS + "wears 0;mends 2;";
    private static final String NAMES = "abeghi";

    public static void main(String[] args) {
        allDone();
        oneMore();
        neighbours();
        allDebts();
        plans();
        fits();
        taxes();
        shares();
        drawn();
        texts();
        images();
        c.end("FullTest");
    }

    /** Each MAN does each FORFEIT and buys each GOOD. */
    private static void allDone() {
        MerryDuchy d = Checks.of(FULL);
        for (int m = 0; m < 6; m++) {
            for (int f = 0; f < 6; f++) {
                c.due("forfeit(" + m + ", " + f + ")", d.forfeit(m, f), f + 1);
                c.due("buy(" + m + ", " + f + ")", d.buy(m, f), 0);
            }
        }
        int[] man = {78, 99, 15, 0, 0, 63, 6, 21};
        int[] now = {0, 468, 90, 0, 36, 36};
        for (int m = 0; m < 6; m++) {
            for (int what = 0; what < 8; what++) {
                c.due("man(" + m + ", " + what + ")", d.man(m, what), man[what]);
            }
            for (int f = 0; f < 6; f++) {
                c.due("times(" + m + ", " + f + ")", d.times(m, f), 1);
                c.due("bought(" + m + ", " + f + ")", d.bought(m, f), 1);
                c.due("cost(" + m + ", " + f + ")", d.cost(m, f), f + 1);
            }
        }
        for (int g = 0; g < 6; g++) {
            c.due("STOCK of " + g, d.good(g, 1), 3);
        }
        for (int what = 0; what < 6; what++) {
            c.due("now(" + what + ")", d.now(what), now[what]);
        }
        d.weeks(1);
        c.due("all mend", d.now(1), 480);
    }

    private static void oneMore() {
        MerryDuchy d = Checks.of(FULL);
        c.due("man(6, 0)", Twins.man(d, 6, 0), Twins.THROWN);
        int[] answers = {d.cost(6, 0), d.cost(0, 6), d.times(6, 0), d.times(0, 6), d.bought(6, 0), d.bought(0, 6), d.good(6, 0),
            d.owes(6, 0), d.owes(0, 6), d.forfeit(6, 0), d.forfeit(0, 6), d.buy(6, 0), d.buy(0, 6), d.lend(6, 0, 1), d.lend(0, 6, 1),
            d.repay(6, 0, 1), d.repay(0, 6, 1), d.ringAt(6), d.plan(6, 0), d.planned(6), d.lasts(6, 0), d.lasts(0, 6),
            d.worth(6, 0), d.worth(0, 6), d.share(1, 127, 0), d.share(1, 64, 6), d.share(1, 63, 6), d.taxOf(6), d.list(6),
            d.odds(6, 1, 1)};
        for (int i = 0; i < answers.length; i++) {
            c.due("one more, call " + i, answers[i], -1);
        }
    }

    /** What one MAN does is not another one's, the last of a row not the first of the next. */
    private static void neighbours() {
        for (int m = 0; m < 6; m++) {
            for (int i = 0; i < 6; i += 5) {
                MerryDuchy d = Checks.of(FULL);
                d.forfeit(m, i);
                d.buy(m, i);
                Checks.sentence(d, "has " + (i == 0 ? "j" : "o") + " and did " + (i == 0 ? "t" : "y"));
                c.due("said", d.said(0), m);
                c.due("of one alone", d.said(-1), 1);
                for (int k = 0; k < 6; k++) {
                    c.due("GOODS of " + k + " by " + m, d.man(k, 5), k == m ? 1 << i : 0);
                    c.due("done of " + k + " by " + m, d.man(k, 6), k == m ? 1 : 0);
                }
            }
        }
    }

    private static String allOwe(int least) {
        StringBuilder text = new StringBuilder(MEN);
        for (int m = 0; m < 6; m++) {
            for (int k = 0; k < 6; k++) {
                if (m != k) {
                    text.append("owes ").append(NAMES.charAt(m)).append(' ').append(NAMES.charAt(k)).append(' ');
                    text.append(least + m + k).append(';');
                }
            }
        }
        return text.toString();
    }

    private static void allDebts() {
        MerryDuchy d = Checks.of(allOwe(1));
        c.due("all debts", d.now(3), 180);
        c.due("the last owes", d.man(5, 3), 5 * 6 + 10);
        c.due("the last is owed", d.man(5, 4), 5 * 6 + 10);
        c.due("even", d.even(), 0);
        c.due("ring()", d.ring(), 2);
        c.due("the first of like ones", d.ringAt(1), 1);
        for (int i = 0; i < 15; i++) {
            c.due("strike " + i + " is above 0", d.strike() > 0, true);
        }
        c.due("all are struck", d.now(3), 0);
        c.due("none left", d.strike(), -1);
        c.due("8 are kept", d.undo(), 7);
        c.due("the last pair", d.owes(5, 4), 10);
        MerryDuchy ring = Checks.of(MEN + "owes i h 2;owes h g 3;owes g e 4;owes e b 5;owes b a 6;owes a i 7;");
        c.due("a RING of all", ring.ring(), 6);
        int[] men = {0, 5, 4, 3, 2, 1};
        for (int k = 0; k < 6; k++) {
            c.due("ringAt(" + k + ")", ring.ringAt(k), men[k]);
        }
        c.due("ringAt(6)", ring.ringAt(6), -1);
        c.due("strike", ring.strike(), 2);
        c.due("all less", ring.now(3), 15);
    }

    private static void plans() {
        MerryDuchy d = Checks.of(FULL);
        int[][] due = {{0, 0, 0, 0, 0, 1}, {0, 0, 1, 1, 0, 0}, {0, 0, 0, 0, 1, 1}, {0, 0, 0, 0, 3, 14}};
        int[] w = {6, 7, 11, 99};
        for (int i = 0; i < w.length; i++) {
            for (int m = 0; m < 6; m += 5) {
                c.due("plan(" + m + ", " + w[i] + ")", d.plan(m, w[i]), w[i]);
                for (int f = 0; f < 6; f++) {
                    c.due("planned(" + f + ") of " + w[i], d.planned(f), due[i][f]);
                }
                c.due("planned(6)", d.planned(6), -1);
            }
        }
        c.due("lasts(5, 5)", d.lasts(5, 5), 16);
        c.due("worth(5, 5)", d.worth(5, 5), 96);
    }

    private static void fits() {
        MerryDuchy d = Checks.of(FULL + "minds a y 5;minds i y 4;minds i x 6;minds h x 7;minds g x 8;");
        Checks.tape(d, 5, 6);
        c.due("fits", d.fits(), 0b011110);
        c.due("tells", d.tells(), 4);
        Checks.tape(d, 0, 1);
        c.due("fits all", d.fits(), 63);
        c.due("by x 3 are left at most, by y 4", d.tells(), 4);
        Checks.tape(d, 6, 1);
        c.due("one more", d.fits(), -1);
    }

    private static void taxes() {
        MerryDuchy d = Checks.of(FULL);
        for (int t = 0; t <= 36; t += 6) {
            c.due("tax(" + t + ")", d.tax(t), t / 6);
            for (int m = 0; m < 6; m++) {
                c.due("taxOf(" + m + ") of " + t, d.taxOf(m), t / 6 - 1);
            }
            c.due("taxOf(6)", d.taxOf(6), -1);
        }
        c.due("tax(37)", d.tax(37), -1);
        c.due("tax(31)", d.tax(31), 6);
        int[] due = {0, 5, 5, 5, 5, 5};
        for (int m = 0; m < 6; m++) {
            c.due("taxOf(" + m + ") of 31", d.taxOf(m), due[m]);
        }
    }

    private static void shares() {
        MerryDuchy d = Checks.of(FULL);
        for (int m = 0; m < 6; m++) {
            c.due("share of 999", d.share(999, 63, m), m < 3 ? 167 : 166);
        }
        c.due("proudest", d.proudest(), 0);
        for (int m = 0; m < 5; m++) {
            d.forfeit(m, 0);
        }
        c.due("the last is the proudest", d.proudest(), 5);
        c.due("list of the last", d.list(5), "i would t for 1".length());
    }

    private static void drawn() {
        MerryDuchy d = Checks.of(FULL);
        MerryDuchy same = Checks.of(FULL);
        c.due("drawn", d.drawn(40, 9), 40);
        DrawnTest.byHand(same, 40, 9);
        DrawnTest.same(c, "drawn in full", d, same);
        c.due("the last may have a GOOD", d.odds(5, 30, 1) >= 0, true);
    }

    private static void texts() {
        MerryDuchy d = Checks.of(FULL);
        String book = "i does y;i buys o;i lends h 1;h repays i 1;h lends a 1;";
        c.due("book", Checks.book(d, book, 1), 4);
        c.due("why", d.told(0), 22);
        c.due("CREDIT", d.told(3), 5);
        c.due("sentence", Checks.sentence(d, "has o and did y and not owing i and number=5"), 5);
        c.due("said", d.said(0), 5);
        Checks.sentence(d, "number>4 or number<1 or pride=99 and proud");
        c.due("of all", d.said(-1), 6);
        c.due("the sixth", d.said(5), 5);
        c.due("no seventh", d.said(6), -1);
    }

    private static void images() {
        MerryDuchy d = Checks.of(FULL);
        MerryDuchy same = Checks.of(FULL);
        d.drawn(30, 4);
        same.drawn(30, 4);
        d.image(1);
        d.drawn(30, 5);
        Checks.duchy(d, "");
        c.due("restore", d.restore(1), true);
        DrawnTest.same(c, "restored in full", d, same);
        for (int f = 0; f < 6; f++) {
            c.due("COST", d.cost(5, f), f + 1);
            c.due("WORTH", d.good(f, 0), 1);
        }
    }
}
