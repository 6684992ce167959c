/**
 * The edges of what is asked, drawn, judged, said and kept (==== 3.; promises 20 to 43), one by one, on both sides: the
 * last that can be and the first that can't.
 */
public final class AskEdgesTest {
    private static final Checks c = new Checks();
    private static final String SIX = "man a 9;man b 9;man e 9;man g 9;man h 9;man i 9;";

    public static void main(String[] args) {
        rings();
        latestRing();
        plansBounds();
        plansTwentyTimes();
        plansOfLikeOnes();
        latestPlan();
        lasts();
        evens();
        pairs();
        fitsByCost();
        tellsOfLikeOnes();
        latestFits();
        sharesBounds();
        sharesRest();
        taxBounds();
        taxByPride();
        taxOfLikeOnes();
        latestTax();
        proudest();
        lists();
        latestList();
        drawsWrap();
        drawsOfNone();
        drawsRepay();
        drawnBounds();
        oddsBounds();
        oddsWrap();
        c.end("AskEdgesTest");
    }

    private static void ring(String text, int... men) {
        MerryDuchy d = Checks.of(text);
        c.due("ring() of " + text, d.ring(), men.length == 0 ? -1 : men.length);
        for (int k = 0; k < men.length; k++) {
            c.due("ringAt(" + k + ") of " + text, d.ringAt(k), men[k]);
        }
        c.due("ringAt behind it", d.ringAt(men.length), -1);
        c.due("ringAt(-1)", d.ringAt(-1), -1);
    }

    /** «the fewest MEN each of whom owes the next one something»; «of like ones the first» */
    private static void rings() {
        ring("");
        ring("man a 1;");
        ring(SIX);
        ring(SIX + "owes a b 1;owes b e 1;owes e g 1;owes g h 1;owes h i 1;");
        ring(SIX + "owes a b 1;owes b a 1;", 0, 1);
        ring(SIX + "owes a b 1;owes b e 1;owes e g 1;owes g h 1;owes h i 1;owes i a 1;", 0, 1, 2, 3, 4, 5);
        ring(SIX + "owes a b 1;owes b e 1;owes e g 1;owes g h 1;owes h i 1;owes i a 1;owes h g 1;", 3, 4);
        ring(SIX + "owes g i 1;owes i g 1;owes e h 1;owes h e 1;", 2, 4);
        ring(SIX + "owes e i 1;owes i e 1;owes e h 1;owes h e 1;", 2, 4);
        ring(SIX + "owes b i 1;owes i e 1;owes e b 1;", 1, 5, 2);
        ring(SIX + "owes b i 1;owes i e 1;owes e b 1;owes b e 1;owes e i 1;owes i b 1;", 1, 2);
    }

    /** Promise 21: «by the latest ring() that was not NONE; NONE: none such, or ahead of any» */
    private static void latestRing() {
        MerryDuchy d = Checks.of(SIX + "owes e i 4;owes i e 2;owes a b 1;owes b g 1;owes g a 1;");
        c.due("ahead of any", d.ringAt(0), -1);
        d.strike();
        c.due("a strike tells none", d.ringAt(0), -1);
        c.due("ring()", d.ring(), 3);
        c.due("ringAt(2)", d.ringAt(2), 3);
        d.undo();
        c.due("the latest, not the one now", d.ringAt(2), 3);
        c.due("ring()", d.ring(), 2);
        c.due("ringAt(1)", d.ringAt(1), 5);
        c.due("the shorter one has no third", d.ringAt(2), -1);
        d.strike();
        d.strike();
        c.due("ring()", d.ring(), -1);
        c.due("the latest that was not NONE", d.ringAt(0), 2);
        c.due("its second", d.ringAt(1), 5);
    }

    private static void plan(MerryDuchy d, int m, int w, int pays, int... times) {
        c.due("plan(" + m + ", " + w + ")", d.plan(m, w), pays);
        for (int f = 0; f < times.length; f++) {
            c.due("planned(" + f + ") of " + w, d.planned(f), times[f]);
        }
    }

    /** Promise 22: «w (0 to 200)», «pay w at least in all, no more than his PRIDE»; «NONE: it can't be, no such ones» */
    private static void plansBounds() {
        MerryDuchy d = Checks.of("man a 12;man b 99;man e 0;forfeit f 6;forfeit h 20;wears 0;");
        plan(d, 0, 0, 0, 0, 0);
        plan(d, 0, 1, 6, 1, 0);
        plan(d, 0, 6, 6, 1, 0);
        plan(d, 0, 7, 12, 2, 0);
        plan(d, 0, 12, 12, 2, 0);
        plan(d, 0, 13, -1, 2, 0);
        plan(d, 1, 99, -1, 2, 0);
        plan(d, 1, 98, 98, 3, 4);
        plan(d, 0, -1, -1, 3, 4);
        plan(d, 1, 200, -1, 3, 4);
        plan(d, 1, 201, -1, 3, 4);
        plan(d, 3, 0, -1, 3, 4);
        plan(d, -1, 0, -1, 3, 4);
        plan(d, 2, 0, 0, 0, 0, -1);
        plan(d, 2, 1, -1, 0, 0, -1);
        plan(Checks.of("man a 9;"), 0, 0, 0, -1);
        plan(Checks.of("man a 9;"), 0, 1, -1, -1);
        plan(Checks.of("man a 9;forfeit f 0;"), 0, 0, 0, 0);
        plan(Checks.of("man a 9;forfeit f 0;"), 0, 1, -1, -1);
    }

    /** «each 0 to 20 times from now on» */
    private static void plansTwentyTimes() {
        MerryDuchy d = Checks.of("man a 99;forfeit f 1;wears 9;");
        plan(d, 0, 20, 20, 20);
        plan(d, 0, 21, -1, 20);
        d.forfeit(0, 0);
        plan(d, 0, 20, 20, 20);
        plan(d, 0, 21, -1, 20);
        MerryDuchy e = Checks.of("man a 99;forfeit f 1;forfeit h 3;wears 0;");
        plan(e, 0, 80, 80, 20, 20);
        plan(e, 0, 81, -1);
        MerryDuchy second = Checks.of("man a 99;man b 99;forfeit f 9;forfeit h 9;wears 3;");
        second.forfeit(1, 1);
        plan(second, 1, 7, 9, 1, 0);
        plan(second, 1, 6, 6, 0, 1);
        plan(second, 0, 6, 9, 0, 1);
    }

    /** «the least that they pay in all; of like ones the fewest times in all; then the first: FORFEIT by FORFEIT the fewest» */
    private static void plansOfLikeOnes() {
        plan(Checks.of("man a 50;forfeit f 2;forfeit h 7;wears 0;"), 0, 8, 8, 4, 0);
        plan(Checks.of("man a 50;forfeit f 2;forfeit h 8;wears 0;"), 0, 8, 8, 0, 1);
        plan(Checks.of("man a 50;forfeit f 8;forfeit h 2;wears 0;"), 0, 8, 8, 1, 0);
        plan(Checks.of("man a 50;forfeit f 5;forfeit h 5;wears 0;"), 0, 5, 5, 0, 1);
        plan(Checks.of("man a 50;forfeit f 4;forfeit h 6;forfeit i 5;wears 0;"), 0, 10, 10, 0, 0, 2);
        plan(Checks.of("man a 50;forfeit f 5;forfeit h 6;forfeit i 4;wears 0;"), 0, 10, 10, 0, 1, 1);
    }

    /** Promise 23: «by the latest plan() that was not NONE; NONE: no such one, or ahead of any» */
    private static void latestPlan() {
        MerryDuchy d = Checks.of("man a 9;forfeit f 3;forfeit h 5;wears 0;");
        c.due("ahead of any", d.planned(0), -1);
        c.due("NONE", d.plan(0, 10), -1);
        c.due("still ahead of any", d.planned(0), -1);
        plan(d, 0, 9, 9, 3, 0, -1);
        c.due("planned(-1)", d.planned(-1), -1);
        c.due("NONE", d.plan(0, 10), -1);
        c.due("the one ahead", d.planned(0), 3);
        d.forfeit(0, 0);
        c.due("the latest, not one from now on", d.planned(0), 3);
    }

    /** «how often a MAN can do a FORFEIT one time behind the other»; «what all of it pays» */
    private static void lasts() {
        MerryDuchy d = Checks.of("man a 9;man b 10;man e 11;man g 4;man h 5;man i 0;forfeit f 5;forfeit o 0;wears 1;");
        int[] lasts = {2, 2, 2, 0, 1, 0};
        int[] worth = {9, 9, 9, 0, 5, 0};
        for (int m = 0; m < 6; m++) {
            c.due("lasts(" + m + ", 0)", d.lasts(m, 0), lasts[m]);
            c.due("worth(" + m + ", 0)", d.worth(m, 0), worth[m]);
            c.due("not minded", d.lasts(m, 1), 0);
            c.due("not minded", d.worth(m, 1), 0);
        }
        MerryDuchy most = Checks.of("man a 99;forfeit f 1;forfeit h 20;wears 9;");
        c.due("99 times", most.lasts(0, 0), 99);
        c.due("99 in all", most.worth(0, 0), 99);
        c.due("20, 11, 2 and then 1 each", most.lasts(0, 1), 3 + 66);
        most.forfeit(0, 1);
        c.due("from now on: 11, 2 and then 1 each", most.lasts(0, 1), 2 + 66);
        c.due("what is left of his PRIDE", most.worth(0, 1), 79);
        c.due("behind the last FORFEIT", most.lasts(0, 2), -1);
        c.due("behind the last MAN", most.worth(1, 0), -1);
        c.due("nothing was done by it", most.times(0, 1), 1);
    }

    /** «the fewest payments»: none, one for each who is not even but one, fewer where some are even among themselves. */
    private static void evens() {
        c.due("no debts", Checks.of(SIX).even(), 0);
        c.due("a RING of like debts", Checks.of(SIX + "owes a b 7;owes b e 7;owes e a 7;").even(), 0);
        c.due("one", Checks.of(SIX + "owes a b 7;").even(), 1);
        c.due("through another", Checks.of(SIX + "owes a b 7;owes b i 7;").even(), 1);
        c.due("five at most", Checks.of(SIX + "owes a b 1;owes a e 2;owes a g 4;owes a h 8;owes a i 16;").even(), 5);
        c.due("2 and 3 even among themselves", Checks.of(SIX + "owes a b 5;owes e g 2;owes e h 1;").even(), 3);
        c.due("3 and 3 even among themselves", Checks.of(SIX + "owes a b 5;owes a e 6;owes g h 1;owes g i 2;").even(), 4);
        // +1 +1 +4 -2 -2 -2: the first two and a -2, the third and the others
        c.due("3 and 3 in another order", Checks.of(SIX + "owes g a 1;owes g b 1;owes h e 2;owes i e 2;").even(), 4);
        // +1 +3 +8 -2 -5 -5: none of them are even without the others
        c.due("all six at once", Checks.of(SIX + "owes g a 1;owes g b 1;owes h b 2;owes h e 3;owes i e 5;").even(), 5);
    }

    private static int fits(MerryDuchy d, int... bytes) {
        Checks.tape(d, bytes);
        int men = d.fits();
        c.due("the tape is empty behind fits()", d.count(5), 0);
        return men;
    }

    /** Promise 27: «pairs of bytes: a FORFEIT, what it paid; 1 to 10 of them» */
    private static void pairs() {
        MerryDuchy d = Checks.of("man a 0;man b 0;forfeit f 1;forfeit h 2;wears 0;");
        for (int bytes = 0; bytes <= 24; bytes++) {
            int[] tape = new int[bytes];
            for (int i = 1; i < bytes; i += 2) {
                tape[i] = 1;
            }
            c.due("fits() of " + bytes + " bytes", fits(d, tape), bytes % 2 == 0 && bytes >= 2 && bytes <= 20 ? 3 : -1);
        }
        c.due("the last FORFEIT", fits(d, 1, 2), 3);
        c.due("none behind it", fits(d, 2, 2), -1);
        c.due("far behind it", fits(d, 128, 2), -1);
        c.due("in the last of ten pairs", fits(d, 0, 1, 0, 1, 0, 1, 0, 1, 0, 1, 0, 1, 0, 1, 0, 1, 0, 1, 2, 1), -1);
        c.due("a full tape", fits(d, new int[940]), -1);
        Checks.duchy(d, "man a 1;");
        c.due("no FORFEITS", fits(d, 0, 1), -1);
        Checks.duchy(d, "forfeit f 1;");
        c.due("no MEN", fits(d, 0, 1), 0);
    }

    /** «(PRIDE of no matter; who minds one 0 can't do it), would pay just so» */
    private static void fitsByCost() {
        MerryDuchy d = Checks.of("man a 0;man b 99;man e 1;forfeit f 5;forfeit h 0;minds e f 4;minds b h 1;wears 2;");
        c.due("just so", fits(d, 0, 5), 3);
        c.due("1 less", fits(d, 0, 4), 4);
        c.due("1 more", fits(d, 0, 6), 0);
        c.due("one behind the other", fits(d, 0, 5, 0, 3, 0, 1, 0, 1), 3);
        c.due("not worn enough", fits(d, 0, 5, 0, 5), 0);
        c.due("minds it 0", fits(d, 1, 0), 0);
        c.due("minds it 1", fits(d, 1, 1), 2);
        c.due("paid 0", fits(d, 0, 0), 0);
        c.due("paid 255", fits(d, 0, 255), 0);
        d.forfeit(1, 0);
        c.due("from now on", fits(d, 0, 3), 2);
        c.due("the others as ahead", fits(d, 0, 5), 1);
        c.due("nothing was done by it", d.times(0, 0), 0);
    }

    /** «the greatest number of these MEN that may still be left is the least; of like ones the first» */
    private static void tellsOfLikeOnes() {
        MerryDuchy d = Checks.of("man a 9;man b 9;man e 9;man g 9;forfeit f 5;forfeit h 5;forfeit i 5;forfeit k 5;"
                + "minds a h 1;minds a i 1;minds b i 2;minds g k 1;minds e k 1;wears 0;");
        c.due("all", fits(d, 0, 5), 15);
        c.due("by i 2 are left at most, by k 2 too", d.tells(), 2);
        MerryDuchy one = Checks.of("man a 9;forfeit f 5;forfeit h 5;");
        c.due("one MAN", fits(one, 1, 5), 1);
        c.due("all alike: the first", one.tells(), 0);
        MerryDuchy dear = Checks.of("man a 9;man b 9;man e 9;forfeit f 5;forfeit h 20;forfeit i 1;minds a i 2;minds b h 19;wears 0;");
        c.due("all three", fits(dear, 0, 5), 7);
        c.due("h and i part one of them: the first", dear.tells(), 1);
        MerryDuchy like = Checks.of("man a 9;man b 9;man e 9;forfeit f 5;forfeit h 20;forfeit i 1;minds a i 2;wears 0;");
        c.due("all three", fits(like, 0, 5), 7);
        c.due("20 for all parts none", like.tells(), 2);
        MerryDuchy done = Checks.of("man a 99;man b 99;forfeit f 5;forfeit h 7;wears 1;");
        done.forfeit(1, 1);
        c.due("both", fits(done, 0, 5), 3);
        c.due("what one of them has done parts them", done.tells(), 1);
        // by these one FORFEIT is done, not the others, which would be worn alike by once more
        MerryDuchy others = Checks.of("man a 9;man b 9;forfeit f 3;forfeit h 5;forfeit i 3;minds b f 2;minds b i 2;wears 2;");
        c.due("both", fits(others, 1, 5), 3);
        c.due("f parts them, not done by these", others.tells(), 0);
        c.due("both", fits(others, 1, 5, 1, 3, 1, 1), 3);
        c.due("f parts them, not done by these", others.tells(), 0);
        MerryDuchy last = Checks.of("man a 9;man b 9;forfeit f 3;forfeit h 5;forfeit i 3;minds b i 2;wears 2;");
        c.due("both", fits(last, 1, 5, 0, 3), 3);
        c.due("i parts them, not done by these", last.tells(), 2);
        // what was paid is no FORFEIT
        MerryDuchy paid = Checks.of("man a 9;man b 9;forfeit f 1;forfeit h 3;minds b h 2;wears 2;");
        c.due("both", fits(paid, 0, 1), 3);
        c.due("h parts them", paid.tells(), 1);
        c.due("both", fits(paid, 0, 1, 0, 1), 3);
        c.due("h parts them", paid.tells(), 1);
        MerryDuchy least = Checks.of("man a 9;man b 9;forfeit h 5;forfeit f 2;minds b f 1;wears 2;");
        least.forfeit(0, 1);
        c.due("both by 1 at least", fits(least, 1, 1), 3);
        c.due("1 for both next: the first", least.tells(), 0);
        // behind these: the COST is the next one
        MerryDuchy worn = Checks.of("man a 9;man b 9;forfeit f 3;forfeit h 4;minds b h 5;wears 3;");
        c.due("both", fits(worn, 0, 3), 3);
        c.due("h parts them", worn.tells(), 1);
        MerryDuchy next = Checks.of("man a 9;man b 9;forfeit f 5;forfeit h 4;minds b h 4;minds b f 6;wears 2;");
        next.forfeit(1, 0);
        c.due("one who has done it", fits(next, 0, 4), 2);
        next.undo();
        c.due("both by h", fits(next, 1, 4, 1, 2), 3);
        c.due("f parts them still", next.tells(), 0);
    }

    /** Promise 28: «by the latest fits() above 0 (as it was then)», «or ahead of any» */
    private static void latestFits() {
        MerryDuchy d = Checks.of("man a 9;man b 9;forfeit f 5;forfeit h 4;minds b h 3;wears 0;");
        c.due("ahead of any", d.tells(), -1);
        c.due("not as told", fits(d), -1);
        c.due("still ahead of any", d.tells(), -1);
        c.due("nobody", fits(d, 0, 9), 0);
        c.due("still ahead of any above 0", d.tells(), -1);
        c.due("both", fits(d, 0, 5), 3);
        c.due("tells", d.tells(), 1);
        c.due("nobody", fits(d, 0, 9), 0);
        c.due("the latest above 0", d.tells(), 1);
        Checks.duchy(d, "man a 9;");
        c.due("as it was then", d.tells(), 1);
    }

    /** Promise 29: «n (0 to 999)», «NONE: he is none of them, no such ones»; «nobody has any: nothing» */
    private static void sharesBounds() {
        MerryDuchy d = Checks.of("man a 3;man b 6;man e 0;man g 0;");
        c.due("n 0", d.share(0, 3, 1), 0);
        c.due("n -1", d.share(-1, 3, 1), -1);
        c.due("n 999", d.share(999, 3, 1), 666);
        c.due("n 1000", d.share(1000, 3, 1), -1);
        c.due("he alone", d.share(999, 2, 1), 999);
        c.due("none of them", d.share(9, 1, 1), -1);
        c.due("nobody of them", d.share(9, 0, 1), -1);
        c.due("all of them", d.share(9, 15, 1), 6);
        c.due("one of them is no MAN", d.share(9, 31, 1), -1);
        c.due("the bit of a number below 0", d.share(9, Integer.MIN_VALUE | 3, 1), -1);
        c.due("no such MAN", d.share(9, 15, 4), -1);
        c.due("no such MAN", d.share(9, 15, -1), -1);
        c.due("a MAN whose bit wraps", d.share(9, 15, 32), -1);
        c.due("nobody has any", d.share(999, 12, 2), 0);
        c.due("one has 1", Checks.of("man a 0;man b 1;").share(999, 3, 1), 999);
        c.due("he has none", d.share(999, 5, 2), 0);
        MerryDuchy six = Checks.of("man a 99;man b 99;man e 99;man g 99;man h 99;man i 99;");
        c.due("the last of six", six.share(999, 63, 5), 166);
        c.due("the third of six", six.share(999, 63, 2), 167);
        c.due("the fourth of six", six.share(999, 63, 3), 166);
    }

    /** «(cut), what is left 1 by 1 to those with the greatest rest (of like ones the first), each once» */
    private static void sharesRest() {
        MerryDuchy d = Checks.of("man a 5;man b 3;man e 2;man g 3;");
        // of 13: 65 39 26 39 by 13: no rest
        int[] even = {5, 3, 2, 3};
        // of 14: 70 42 28 42 by 13: 5 r5, 3 r3, 2 r2, 3 r3: one left
        int[] one = {6, 3, 2, 3};
        // of 15: 75 45 30 45: 5 r10, 3 r6, 2 r4, 3 r6: two left
        int[] two = {6, 4, 2, 3};
        // of 16: 80 48 32 48: 6 r2, 3 r9, 2 r6, 3 r9: two left
        int[] like = {6, 4, 2, 4};
        for (int m = 0; m < 4; m++) {
            c.due("no rest", d.share(13, 15, m), even[m]);
            c.due("one left", d.share(14, 15, m), one[m]);
            c.due("two left", d.share(15, 15, m), two[m]);
            c.due("two left for like ones", d.share(16, 15, m), like[m]);
        }
        c.due("among two alike", d.share(7, 10, 1), 4);
        c.due("among two alike", d.share(7, 10, 3), 3);
    }

    private static void tax(MerryDuchy d, int t, int greatest, int... forfeits) {
        c.due("tax(" + t + ")", d.tax(t), greatest);
        for (int m = 0; m < forfeits.length; m++) {
            c.due("taxOf(" + m + ") of " + t, d.taxOf(m), forfeits[m]);
        }
    }

    /** Promise 30: «t (0 to 200): the greatest COST (0: nobody does any); NONE: it can't be, not as told» */
    private static void taxBounds() {
        MerryDuchy d = Checks.of("man a 20;man b 20;man e 20;man g 20;man h 20;man i 20;forfeit f 20;");
        tax(d, 120, 20, 0, 0, 0, 0, 0, 0, -1);
        tax(d, 121, -1, 0, 0, 0, 0, 0, 0);
        tax(d, 101, 20, 0, 0, 0, 0, 0, 0);
        tax(d, 100, 20, 0, 0, 0, 0, 0, -1);
        tax(d, 1, 20, 0, -1, -1, -1, -1, -1);
        tax(d, 200, -1, 0, -1);
        tax(d, 201, -1, 0, -1);
        tax(d, -1, -1, 0, -1);
        tax(d, 0, 0, -1, -1, -1, -1, -1, -1);
        tax(new MerryDuchy(), 0, 0, -1);
        tax(new MerryDuchy(), 1, -1, -1);
        tax(Checks.of("man a 9;"), 0, 0, -1);
        tax(Checks.of("man a 9;"), 1, -1, -1);
    }

    /** «whose COST is above 0, not above his PRIDE» */
    private static void taxByPride() {
        MerryDuchy d = Checks.of("man a 5;man b 4;man e 0;forfeit o 0;forfeit f 5;wears 0;");
        tax(d, 5, 5, 1, -1, -1);
        tax(d, 6, -1, 1, -1, -1);
        d.forfeit(0, 1);
        tax(d, 1, -1, 1, -1, -1);
        MerryDuchy one = Checks.of("man a 1;forfeit o 0;forfeit f 1;");
        tax(one, 1, 1, 1);
        tax(one, 2, -1, 1);
    }

    /** «the greatest COST is the least; of like ones the least in all; then the first: .. the least FORFEIT, none behind all» */
    private static void taxOfLikeOnes() {
        MerryDuchy d = Checks.of("man a 99;man b 99;man e 99;forfeit f 6;forfeit h 4;forfeit i 2;wears 0;");
        tax(d, 6, 2, 2, 2, 2);
        tax(d, 7, 4, 1, 1, -1);
        tax(d, 5, 2, 2, 2, 2);
        tax(d, 4, 2, 2, 2, -1);
        tax(d, 8, 4, 1, 1, -1);
        tax(d, 9, 4, 1, 1, 2);
        tax(d, 13, 6, 0, 0, 2);
        tax(d, 15, 6, 0, 0, 1);
        // each MAN does one, not one and another one, nor one twice
        tax(Checks.of("man a 9;forfeit f 2;forfeit h 5;wears 0;"), 4, 5, 1);
        tax(Checks.of("man a 9;forfeit f 2;forfeit h 4;wears 0;"), 4, 4, 1);
        tax(Checks.of("man a 9;forfeit f 2;forfeit h 4;wears 0;"), 5, -1, -1);
        MerryDuchy like = Checks.of("man a 9;man b 9;forfeit f 3;forfeit h 3;wears 0;");
        tax(like, 3, 3, 0, -1);
        tax(like, 4, 3, 0, 0);
    }

    /** Promise 31: «NONE: none, no such one, or ahead of any», «by the latest tax() that was not NONE» */
    private static void latestTax() {
        MerryDuchy d = Checks.of("man a 9;man b 9;forfeit o 0;forfeit f 3;wears 0;");
        c.due("ahead of any", d.taxOf(0), -1);
        c.due("NONE", d.tax(7), -1);
        c.due("still ahead of any", d.taxOf(0), -1);
        tax(d, 6, 3, 1, 1, -1);
        c.due("taxOf(-1)", d.taxOf(-1), -1);
        c.due("NONE", d.tax(7), -1);
        c.due("the one ahead", d.taxOf(1), 1);
        tax(d, 3, 3, 1, -1);
        c.due("nothing was done by it", d.now(4), 0);
    }

    /** Promise 32: «of like ones the first», «NONE: there are none» */
    private static void proudest() {
        c.due("no MEN", new MerryDuchy().proudest(), -1);
        c.due("no PRIDE", Checks.of("man a 0;").proudest(), 0);
        c.due("like ones", Checks.of("man a 8;man b 9;man e 9;").proudest(), 1);
        c.due("the last one", Checks.of("man a 8;man b 8;man e 9;").proudest(), 2);
        MerryDuchy d = Checks.of("man a 9;man b 8;forfeit f 1;wears 0;");
        d.forfeit(0, 0);
        c.due("like ones by now", d.proudest(), 0);
        d.forfeit(0, 0);
        c.due("1 less", d.proudest(), 1);
    }

    private static void list(MerryDuchy d, int m, String due) {
        String got = Checks.listed(d, m);
        c.due("list(" + m + ") '" + got + "' for '" + due + "'", got.equals(due), true);
        c.due("bytes of '" + due + "'", d.list(m), due.length());
        c.due("behind it", d.byteAt(due.length()), -1);
        c.due("ahead of it", d.byteAt(-1), -1);
    }

    /** «the FORFEIT that he could DO now by the least COST (of like ones the first)»; «if he could DO none ' would not'» */
    private static void lists() {
        MerryDuchy d = Checks.of("man abcdefg 99;man b 9;man e 10;man g 0;forfeit o 0;forfeit tuvwxyz 10;forfeit f 20;forfeit h 20;"
                + "minds abcdefg tuvwxyz 0;minds b o 10;wears 0;");
        list(d, 0, "abcdefg would f for 20");
        list(d, 1, "b would not");
        list(d, 2, "e would tuvwxyz for 10");
        list(d, 3, "g would not");
        c.due("list(4)", d.list(4), -1);
        c.due("list(-1)", d.list(-1), -1);
        list(Checks.of("man abcdefg 99;forfeit tuvwxyz 20;"), 0, "abcdefg would tuvwxyz for 20");
        list(Checks.of("man a 9;forfeit x 9;"), 0, "a would x for 9");
        list(Checks.of("man a 9;"), 0, "a would not");
        list(Checks.of("man a 19;forfeit x 20;forfeit y 19;"), 0, "a would y for 19");
        list(Checks.of("man a 1;forfeit x 2;forfeit y 1;"), 0, "a would y for 1");
        MerryDuchy worn = Checks.of("man a 99;forfeit x 11;forfeit y 10;wears 1;");
        list(worn, 0, "a would y for 10");
        worn.forfeit(0, 0);
        list(worn, 0, "a would x for 10");
        worn.forfeit(0, 1);
        list(worn, 0, "a would y for 9");
    }

    /** Promise 34: «Byte i of the latest LIST; NONE: none such» */
    private static void latestList() {
        MerryDuchy d = Checks.of("man abcdefg 9;man b 9;forfeit f 3;");
        c.due("ahead of any", d.byteAt(0), -1);
        c.due("list(0)", d.list(0), 21);
        c.due("byteAt(20)", d.byteAt(20), '3');
        c.due("byteAt(21)", d.byteAt(21), -1);
        c.due("list(2)", d.list(2), -1);
        c.due("the latest stays", d.byteAt(20), '3');
        c.due("list(1)", d.list(1), 15);
        c.due("byteAt(14)", d.byteAt(14), '3');
        c.due("what was longer is gone", d.byteAt(15), -1);
        d.forfeit(1, 0);
        c.due("the latest, not one by now", d.byteAt(14), '3');
        c.due("byteAt(MIN)", d.byteAt(Integer.MIN_VALUE), -1);
        c.due("byteAt(MAX)", d.byteAt(Integer.MAX_VALUE), -1);
    }

    /** The draws of a seed by numbers without a sign, which can't wrap. */
    private static long x;

    private static int draw(int n) {
        x = (x * 1103515245L + 12345L) % (1L << 32);
        return (int) ((x / 256) % n);
    }

    private static int timesByHand(long seed, int weeks, int men, int forfeits) {
        x = seed;
        int times = 0;
        for (int i = 0; i < weeks * men; i++) {
            switch (draw(4)) {
                case 1:
                    times += draw(forfeits) == 0 ? 1 : 0;
                    break;
                case 3:
                    draw(men);
                    break;
                default:
                    break;
            }
        }
        return times;
    }

    /** «x becomes x * 1103515245 + 12345 (an int, wrapping), the draw is (x >>> 8) % n» */
    private static void drawsWrap() {
        int[] seeds = {0, 1, 2, -1, -2, 1000000, -1000000, Integer.MAX_VALUE, Integer.MIN_VALUE, 0x55555555, 0xaaaaaaaa};
        for (int seed : seeds) {
            for (int weeks = 1; weeks <= 60; weeks += 59) {
                for (int forfeits = 1; forfeits <= 5; forfeits++) {
                    String text = "man a 99;man b 99;man e 99;forfeit f 1;forfeit h 0;forfeit i 0;forfeit k 0;forfeit l 0;";
                    MerryDuchy d = Checks.of(text.substring(0, 27 + 12 * forfeits) + "wears 0;mends 9;");
                    c.due("FORFEITS told", d.count(1), forfeits);
                    c.due("drawn(" + weeks + ", " + seed + ")", d.drawn(weeks, seed), weeks);
                    int due = timesByHand(seed & 0xffffffffL, weeks, 3, forfeits);
                    c.due("done by " + seed + " among " + forfeits + " in " + weeks, d.now(4), due);
                }
            }
        }
    }

    /** «(each, if there are some, if he can)»: no draw of none. */
    private static void drawsOfNone() {
        for (int seed = -3; seed <= 3; seed++) {
            // no GOODS: a 2 is no second draw, so what comes behind it is as byHand has it
            MerryDuchy d = Checks.of("man a 99;forfeit f 1;wears 0;mends 9;");
            d.drawn(40, seed);
            c.due("without GOODS by " + seed, d.now(4), timesByHand(seed & 0xffffffffL, 40, 1, 1));
            MerryDuchy idle = Checks.of("man a 99;");
            c.due("without any", idle.drawn(40, seed), 40);
            c.due("nothing done", idle.now(4) + idle.now(5) + idle.now(2), 0);
            c.due("the WEEK goes", idle.now(0), 40);
        }
    }

    /** «3 a draw of all MEN: he repays 1»: two who owe one another draw 0 or 1, of which one is himself. */
    private static void drawsRepay() {
        int paid = 0;
        x = 5;
        for (int week = 0; week < 60 && paid < 3; week++) {
            int first = draw(4);
            int whom = first == 3 ? draw(2) : 0;
            if (first == 1) {
                draw(1);
            }
            paid += first == 3 && whom == 1 ? 1 : 0;
            int second = draw(4);
            if (second == 1 || second == 3) {
                draw(second == 1 ? 1 : 2);
            }
            MerryDuchy e = Checks.of("man a 9;man b 0;forfeit f 9;owes a b 3;wears 0;mends 0;");
            e.forfeit(0, 0);
            e.drawn(week + 1, 5);
            c.due("owes behind " + (week + 1) + " WEEKS", e.owes(0, 1), 3 - paid);
            c.due("CREDIT behind " + (week + 1) + " WEEKS", e.man(0, 2), 9 - paid);
        }
        c.due("all was paid", paid, 3);
    }

    /** Promise 35: «n (1 to 60) WEEKS DRAWN by a seed: how many went by; NONE: not as told, no MEN» */
    private static void drawnBounds() {
        MerryDuchy d = Checks.of("man a 9;forfeit f 1;");
        c.due("drawn(0)", d.drawn(0, 1), -1);
        c.due("drawn(61)", d.drawn(61, 1), -1);
        c.due("drawn(1)", d.drawn(1, 1), 1);
        c.due("drawn(60)", d.drawn(60, 1), 60);
        c.due("WEEK", d.now(0), 61);
        d.weeks(60);
        d.weeks(60);
        d.weeks(18);
        c.due("the last WEEK", d.drawn(2, 1), 1);
        int done = d.now(4);
        c.due("all are over", d.drawn(1, 1), 0);
        c.due("all are over", d.drawn(60, 7), 0);
        c.due("nothing is done then", d.now(4), done);
        c.due("what did not go by can't be undone", d.undo(), 5);
        c.due("WEEK", d.now(0), 199);
        c.due("no MEN", Checks.of("forfeit f 1;good g 1 1;").drawn(1, 1), -1);
        c.due("a WEEK mends", mended(), 99);
    }

    private static int mended() {
        MerryDuchy d = Checks.of("man a 99;forfeit f 9;wears 0;mends 9;");
        d.drawn(60, 3);
        return d.man(0, 0);
    }

    private static MerryDuchy behind(String text, int weeks) {
        MerryDuchy d = Checks.of(text);
        for (int i = 0; i < weeks; i += 20) {
            d.weeks(Math.min(20, weeks - i));
        }
        return d;
    }

    /** odds() by drawn() and undo(), of an object of its own. */
    private static int lucky(String text, int weeks, int m, int n, int seed) {
        MerryDuchy d = behind(text, weeks);
        int lucky = 0;
        for (int i = 0; i < n; i++) {
            c.due("20 WEEKS or as many as are left", d.drawn(20, seed + i), Math.min(20, 200 - weeks));
            lucky += d.man(m, 5) != 0 ? 1 : 0;
            d.undo();
        }
        return lucky;
    }

    private static final String SELLS = "man a 99;man b 99;forfeit f 1;good x 1 9;wears 0;mends 9;";

    /** Promise 36: «n (1 to 30) seeds»; «20 WEEKS DRAWN from now on»; «NONE: no such ones» */
    private static void oddsBounds() {
        MerryDuchy d = Checks.of(SELLS);
        c.due("odds of 0", d.odds(0, 0, 1), -1);
        c.due("odds of 31", d.odds(0, 31, 1), -1);
        c.due("odds(-1, ..)", d.odds(-1, 1, 1), -1);
        c.due("odds(2, ..)", d.odds(2, 1, 1), -1);
        for (int n = 1; n <= 30; n++) {
            c.due("odds of " + n, d.odds(1, n, 77), lucky(SELLS, 0, 1, n, 77));
        }
        c.due("nothing was drawn by it", d.now(0), 0);
        c.due("nothing to undo", d.undo(), -1);
        int[] weeks = {179, 180, 181, 198, 199};
        for (int gone : weeks) {
            c.due("behind WEEK " + gone, behind(SELLS, gone).odds(0, 30, 5), lucky(SELLS, gone, 0, 30, 5));
        }
        d = behind(SELLS, 200);
        c.due("no WEEK is left", d.odds(0, 30, 5), 0);
        d.forfeit(0, 0);
        d.buy(0, 0);
        c.due("who has some by now", d.odds(0, 30, 5), 30);
        c.due("the other one", d.odds(1, 30, 5), 0);
        c.due("no GOODS", Checks.of("man a 99;forfeit f 1;").odds(0, 30, 5), 0);
        for (int dear = 1; dear <= 9; dear++) {
            String text = SELLS.replace("good x 1 9;", "good y 1 0;good x " + dear + " 9;");
            c.due("20 WEEKS for " + dear, Checks.of(text).odds(0, 30, 5), lucky(text, 0, 0, 30, 5));
            c.due("20 WEEKS of the other one", Checks.of(text).odds(1, 30, 5), lucky(text, 0, 1, 30, 5));
        }
    }

    /** Promise 36: «seeds x, x and 1, ..»: behind the greatest int comes the least. */
    private static void oddsWrap() {
        int wrapped = 0;
        for (int dear = 1; dear <= 12; dear++) {
            String text = SELLS.replace("x 1", "x " + dear);
            int due = lucky(text, 0, 0, 1, Integer.MAX_VALUE);
            int behind = lucky(text, 0, 0, 1, Integer.MIN_VALUE);
            c.due("odds of 1", Checks.of(text).odds(0, 1, Integer.MAX_VALUE), due);
            c.due("odds of 2", Checks.of(text).odds(0, 2, Integer.MAX_VALUE), due + behind);
            wrapped += behind;
        }
        c.due("the least int is lucky in some", wrapped > 0 && wrapped < 12, true);
    }
}
