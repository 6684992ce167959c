/** Promises 20 to 34: what is asked of a DUCHY, by hand-made cases. */
public final class AskedTest {
    private static final Checks c = new Checks();
    private static final String MEN = "man a 10;man b 20;man e 30;man g 40;man h 50;man i 60;";

    public static void main(String[] args) {
        rings();
        plans();
        lasting();
        evens();
        fitting();
        shares();
        taxes();
        lists();
        c.end("AskedTest");
    }

    private static void ring(MerryDuchy d, int... men) {
        c.due("ring()", d.ring(), men.length == 0 ? -1 : men.length);
        for (int k = 0; k < men.length; k++) {
            c.due("ringAt(" + k + ")", d.ringAt(k), men[k]);
        }
        if (men.length > 0) {
            c.due("ringAt behind it", d.ringAt(men.length), -1);
        }
        c.due("ringAt(-1)", d.ringAt(-1), -1);
    }

    private static void rings() {
        ring(Checks.of(""));
        ring(Checks.of(MEN + "owes a b 1;owes b e 1;owes a e 1;"));
        ring(Checks.of(MEN + "owes i h 1;owes h i 1;"), 4, 5);
        ring(Checks.of(MEN + "owes a b 1;owes b e 1;owes e a 1;owes i h 1;owes h i 1;"), 4, 5);
        ring(Checks.of(MEN + "owes b a 1;owes e b 1;owes a e 1;"), 0, 2, 1);
        ring(Checks.of(MEN + "owes a e 1;owes e g 1;owes g a 1;owes a b 1;owes b g 1;"), 0, 1, 3);
        ring(Checks.of(MEN + "owes a i 1;owes i h 1;owes h g 1;owes g e 1;owes e b 1;owes b a 1;"), 0, 5, 4, 3, 2, 1);
        MerryDuchy d = Checks.of(MEN + "owes e i 1;owes i b 2;owes b e 9;");
        c.due("ringAt ahead of any", d.ringAt(0), -1);
        ring(d, 1, 2, 5);
        d.strike();
        c.due("no ring", d.ring(), -1);
        c.due("the latest one stays", d.ringAt(2), 5);
        Checks.duchy(d, "");
        c.due("in another DUCHY too", d.ringAt(0), 1);
    }

    private static void plan(MerryDuchy d, int m, int w, int pays, int... times) {
        c.due("plan(" + m + ", " + w + ")", d.plan(m, w), pays);
        for (int f = 0; f < times.length; f++) {
            c.due("planned(" + f + ") of plan(" + m + ", " + w + ")", d.planned(f), times[f]);
        }
    }

    private static void plans() {
        MerryDuchy d = Checks.of("man a 50;man b 99;forfeit f 7;forfeit g 5;forfeit h 2;wears 0;");
        c.due("ahead of any", d.planned(0), -1);
        plan(d, 0, 0, 0, 0, 0, 0, -1);
        plan(d, 0, 1, 2, 0, 0, 1, -1);
        plan(d, 0, 7, 7, 1, 0, 0);
        plan(d, 0, 14, 14, 2, 0, 0);
        plan(d, 0, 3, 4, 0, 0, 2);
        plan(d, 0, 50, 50, 5, 3, 0);
        plan(d, 0, 51, -1, 5, 3, 0);
        plan(d, 0, 200, -1, 5, 3, 0);
        plan(d, 0, -1, -1, 5, 3, 0);
        plan(d, 0, 201, -1, 5, 3, 0);
        plan(d, 2, 1, -1, 5, 3, 0);
        plan(d, -1, 0, -1, 5, 3, 0);
        plan(d, 1, 99, 99, 12, 3, 0);
        c.due("planned(3)", d.planned(3), -1);
        c.due("planned(-1)", d.planned(-1), -1);
        // fewest times, then the first FORFEIT the fewest times
        MerryDuchy like = Checks.of("man a 50;forfeit f 4;forfeit g 4;forfeit h 4;wears 2;");
        plan(like, 0, 8, 8, 0, 1, 1);
        plan(like, 0, 12, 12, 1, 1, 1);
        // 20 times each at most
        MerryDuchy cheap = Checks.of("man a 99;forfeit f 1;forfeit g 1;forfeit h 0;wears 0;");
        plan(cheap, 0, 20, 20, 0, 20, 0);
        plan(cheap, 0, 40, 40, 20, 20, 0);
        plan(cheap, 0, 41, -1);
        // what was done already counts
        MerryDuchy worn = Checks.of("man a 40;forfeit f 9;wears 3;");
        worn.forfeit(0, 0);
        plan(worn, 0, 7, 9, 2);
        MerryDuchy none = Checks.of("man a 40;");
        plan(none, 0, 0, 0, -1);
        plan(none, 0, 1, -1);
    }

    private static void lasting() {
        MerryDuchy d = Checks.of("man a 20;man b 0;man e 99;forfeit f 8;forfeit g 0;forfeit h 1;wears 3;mends 0;");
        int[][] lasts = {{8, 0, 20}, {0, 0, 0}, {87, 0, 99}};
        int[][] worth = {{20, 0, 20}, {0, 0, 0}, {99, 0, 99}};
        for (int m = 0; m < 3; m++) {
            for (int f = 0; f < 3; f++) {
                c.due("lasts(" + m + ", " + f + ")", d.lasts(m, f), lasts[m][f]);
                c.due("worth(" + m + ", " + f + ")", d.worth(m, f), worth[m][f]);
            }
        }
        MerryDuchy steady = Checks.of("man a 20;forfeit f 8;wears 0;");
        c.due("lasts", steady.lasts(0, 0), 2);
        c.due("worth", steady.worth(0, 0), 16);
        steady.forfeit(0, 0);
        c.due("lasts from now on", steady.lasts(0, 0), 1);
        c.due("worth from now on", steady.worth(0, 0), 8);
        int[][] wrong = {{3, 0}, {-1, 0}, {0, 3}, {0, -1}};
        for (int[] w : wrong) {
            c.due("lasts NONE", d.lasts(w[0], w[1]), -1);
            c.due("worth NONE", d.worth(w[0], w[1]), -1);
        }
    }

    private static void evens() {
        c.due("nobody", Checks.of("").even(), 0);
        c.due("no debts", Checks.of(MEN).even(), 0);
        c.due("a ring", Checks.of(MEN + "owes a b 3;owes b a 3;").even(), 0);
        c.due("one", Checks.of(MEN + "owes a b 3;owes b a 1;").even(), 1);
        c.due("a chain", Checks.of(MEN + "owes a b 3;owes b e 3;").even(), 1);
        c.due("two pairs", Checks.of(MEN + "owes a b 3;owes e g 5;").even(), 2);
        c.due("three pairs in disguise", Checks.of(MEN + "owes a b 3;owes e g 5;owes h i 7;owes a g 2;owes g a 2;").even(), 3);
        c.due("five", Checks.of(MEN + "owes a b 1;owes a e 2;owes a g 4;owes a h 8;owes a i 16;").even(), 5);
        // +3 +4 +5 -3 -4 -5, told by other debts
        c.due("pairs found", Checks.of(MEN + "owes g a 3;owes h b 4;owes i e 5;owes a b 1;owes b e 1;owes e a 1;").even(), 3);
        // +5 +3, -4 -4
        c.due("no pair", Checks.of(MEN + "owes e a 4;owes g a 1;owes g b 3;").even(), 3);
    }

    private static int fits(MerryDuchy d, int... bytes) {
        Checks.tape(d, bytes);
        int men = d.fits();
        c.due("the tape is empty", d.count(5), 0);
        return men;
    }

    private static void fitting() {
        MerryDuchy d = Checks.of("man a 0;man b 9;man e 9;man g 9;forfeit f 5;forfeit h 6;forfeit i 7;minds b f 4;"
                + "minds e h 3;minds g i 2;minds a i 0;wears 2;");
        c.due("ahead of any", d.tells(), -1);
        c.due("none", fits(d), -1);
        c.due("tells still", d.tells(), -1);
        c.due("f for 5, PRIDE of no matter", fits(d, 0, 5), 0b1101);
        c.due("h parts them 2 to 1, i all", d.tells(), 2);
        c.due("f f", fits(d, 0, 5, 0, 3), 0b1101);
        c.due("f f f", fits(d, 0, 5, 0, 3, 0, 1, 0, 1), 0b1101);
        c.due("f for 4", fits(d, 0, 4), 0b10);
        c.due("one man: the first FORFEIT", d.tells(), 0);
        c.due("f f", fits(d, 0, 4, 0, 2, 1, 6), 0b10);
        c.due("nobody", fits(d, 0, 9), 0);
        c.due("who minds it 0 can't", fits(d, 2, 0), 0);
        c.due("paid 0 or 1", fits(d, 2, 1), 0);
        c.due("tells stays", d.tells(), 0);
        c.due("f h", fits(d, 0, 5, 1, 6), 0b1001);
        c.due("tells", d.tells(), 2);
        d.forfeit(1, 0);
        c.due("from now on", fits(d, 0, 2), 0b10);
        c.due("as it was then", fits(d, 0, 5), 0b1101);
        Checks.duchy(d, "man x 1;");
        c.due("tells as it was then", d.tells(), 2);
        c.due("no such FORFEIT", fits(d, 0, 5), -1);
        Checks.duchy(d, "forfeit f 1;");
        c.due("no men", fits(d, 0, 1), 0);
        MerryDuchy e = Checks.of("man a 9;forfeit f 20;wears 1;");
        int[] ten = new int[20];
        int[] eleven = new int[22];
        for (int i = 0; i < 22; i += 2) {
            eleven[i + 1] = 20 - i / 2;
            if (i < 20) {
                ten[i + 1] = 20 - i / 2;
            }
        }
        c.due("ten", fits(e, ten), 1);
        c.due("eleven", fits(e, eleven), -1);
        c.due("odd", fits(e, 0, 20, 0), -1);
        c.due("odd", fits(e, 0), -1);
        c.due("another FORFEIT", fits(e, 0, 20, 1, 20), -1);
        c.due("255", fits(e, 255, 20), -1);
        c.due("paid 255", fits(e, 0, 255), 0);
        // a COST of 20 is one number more
        MerryDuchy dear = Checks.of("man a 9;man b 9;man e 9;forfeit f 20;forfeit g 5;forfeit h 20;minds a g 4;minds a h 1;minds b h 2;wears 0;");
        c.due("all", fits(dear, 0, 20), 7);
        c.due("h parts all", dear.tells(), 2);
        Checks.duchy(dear, "man a 9;man b 9;man e 9;forfeit f 20;forfeit g 5;minds a g 4;wears 0;");
        c.due("all", fits(dear, 0, 20), 7);
        c.due("g parts one", dear.tells(), 1);
        // who does not mind it next is parted from who does, and is one more number
        MerryDuchy zero = Checks.of("man a 9;man b 9;man e 9;forfeit f 5;forfeit g 1;forfeit h 0;minds a h 3;minds b h 4;wears 0;");
        c.due("all", fits(zero, 0, 5), 7);
        c.due("h parts all", zero.tells(), 2);
    }

    private static void shares() {
        MerryDuchy d = Checks.of("man a 1;man b 1;man e 1;man g 0;man h 5;forfeit f 5;");
        int[] due = {4, 3, 3};
        for (int m = 0; m < 3; m++) {
            c.due("like rests: the first", d.share(10, 7, m), due[m]);
        }
        c.due("no PRIDE", d.share(10, 0b1001, 3), 0);
        c.due("all to the other", d.share(10, 0b1001, 0), 10);
        c.due("nobody has any", d.share(10, 0b1000, 3), 0);
        c.due("n 0", d.share(0, 7, 0), 0);
        c.due("n 999", d.share(999, 1, 0), 999);
        c.due("n 1000", d.share(1000, 1, 0), -1);
        c.due("n -1", d.share(-1, 1, 0), -1);
        c.due("none of them", d.share(5, 2, 0), -1);
        c.due("no set", d.share(5, 0, 0), -1);
        c.due("a set with no such MAN", d.share(5, 0b100001, 0), -1);
        c.due("a set below 0", d.share(5, -1, 0), -1);
        c.due("no such MAN", d.share(5, 31, 5), -1);
        c.due("no such MAN", d.share(5, 31, -1), -1);
        c.due("no such MAN", d.share(5, 31, 32), -1);
        d.forfeit(4, 0);
        c.due("PRIDE now", d.share(10, 0b10001, 4), 0);
        MerryDuchy e = Checks.of("man a 3;man b 5;man g 9;");
        // 20 by 17: 60/17 3 r9, 100/17 5 r15, 180/17 10 r10: two left
        int[] shares = {3, 6, 11};
        for (int m = 0; m < 3; m++) {
            c.due("share of " + m, e.share(20, 7, m), shares[m]);
        }
    }

    private static void tax(MerryDuchy d, int t, int greatest, int... forfeits) {
        c.due("tax(" + t + ")", d.tax(t), greatest);
        for (int m = 0; m < forfeits.length; m++) {
            c.due("taxOf(" + m + ") of tax(" + t + ")", d.taxOf(m), forfeits[m]);
        }
    }

    private static void taxes() {
        MerryDuchy d = Checks.of("man a 9;man b 9;man e 2;forfeit f 7;forfeit g 2;forfeit h 4;minds b f 5;wears 0;");
        c.due("ahead of any", d.taxOf(0), -1);
        tax(d, 0, 0, -1, -1, -1, -1);
        tax(d, 1, 2, 1, -1, -1);
        tax(d, 3, 2, 1, 1, -1);
        tax(d, 6, 2, 1, 1, 1);
        tax(d, 7, 4, 1, 2, 1);
        tax(d, 9, 4, 2, 2, 1);
        tax(d, 11, 5, 2, 0, 1);
        tax(d, 12, 7, 0, 0, -1);
        tax(d, 13, 7, 0, 2, 1);
        tax(d, 14, 7, 0, 0, 1, -1);
        tax(d, 15, -1, 0, 0, 1, -1);
        tax(d, 200, -1, 0, 0, 1);
        tax(d, 201, -1, 0, 0, 1);
        tax(d, -1, -1, 0, 0, 1);
        c.due("taxOf(-1)", d.taxOf(-1), -1);
        // a FORFEIT that is not minded is not done; what was done wears the COST
        MerryDuchy e = Checks.of("man a 20;forfeit o 0;forfeit f 6;wears 2;");
        e.forfeit(0, 1);
        tax(e, 4, 4, 1);
        tax(e, 5, -1, 1);
        MerryDuchy nobody = new MerryDuchy();
        tax(nobody, 0, 0, -1);
        tax(nobody, 1, -1, -1);
        // six men at 20 each
        MerryDuchy all = Checks.of("man a 20;man b 20;man e 20;man g 20;man h 20;man i 20;forfeit f 20;forfeit x 20;");
        tax(all, 120, 20, 0, 0, 0, 0, 0, 0);
        tax(all, 121, -1, 0);
        tax(all, 100, 20, 0, 0, 0, 0, 0, -1);
        Checks.duchy(all, "man a 20;man b 20;forfeit f 3;");
        tax(all, 6, 3, 0, 0, -1);
        tax(all, 7, -1, 0, 0);
    }

    private static void lists() {
        MerryDuchy d = Checks.of("man longone 99;man b 3;man g 2;forfeit longtwo 15;forfeit f 3;minds longone f 20;minds g f 7;"
                + "minds g longtwo 0;wears 0;");
        c.due("ahead of any", d.byteAt(0), -1);
        text(d, 0, "longone would longtwo for 15");
        text(d, 1, "b would f for 3");
        text(d, 2, "g would not");
        c.due("no such", d.list(3), -1);
        c.due("no such", d.list(-1), -1);
        c.due("the latest stays", d.byteAt(0), 'g');
        c.due("behind it", d.byteAt(11), -1);
        c.due("ahead of it", d.byteAt(-1), -1);
        MerryDuchy like = Checks.of("man a 9;forfeit x 9;forfeit y 4;forfeit z 4;forfeit o 0;wears 1;");
        text(like, 0, "a would y for 4");
        like.forfeit(0, 2);
        text(like, 0, "a would z for 3");
        text(Checks.of("man a 9;"), 0, "a would not");
        text(Checks.of("man a 10;forfeit t 10;"), 0, "a would t for 10");
        text(Checks.of("man a 20;forfeit t 20;"), 0, "a would t for 20");
        c.due("proudest", like.proudest(), 0);
        c.due("nobody", new MerryDuchy().proudest(), -1);
        MerryDuchy three = Checks.of("man a 3;man b 9;man e 9;forfeit f 1;");
        c.due("the first of like ones", three.proudest(), 1);
        three.forfeit(1, 0);
        c.due("PRIDE now", three.proudest(), 2);
        c.due("none has any", Checks.of("man a 0;man b 0;").proudest(), 0);
    }

    private static void text(MerryDuchy d, int m, String due) {
        String got = Checks.listed(d, m);
        c.due("list(" + m + ") '" + got + "' for '" + due + "'", got.equals(due), true);
    }
}
