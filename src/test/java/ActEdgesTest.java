/**
 * The edges of what is on the tape, is so and is done (==== 2.; promises 1 to 3 and 6 to 19), one by one, on both sides:
 * the last that can be and the first that can't.
 */
public final class ActEdgesTest {
    private static final Checks c = new Checks();

    public static void main(String[] args) {
        newObject();
        newDuchy();
        highestFirst();
        fullTape();
        firstBytesAlone();
        lastCallOfAll();
        ofMen();
        costs();
        didAndHas();
        does();
        buys();
        lends();
        repays();
        strikes();
        allWeeks();
        mends();
        undoes();
        eightKept();
        whatIsUndone();
        c.end("ActEdgesTest");
    }

    /** Promise 1: «An empty DUCHY; an empty tape.» */
    private static void newObject() {
        MerryDuchy d = new MerryDuchy();
        int[] counts = {0, 0, 0, 1, 1, 0};
        for (int what = 0; what < 6; what++) {
            c.due("new: count(" + what + ")", d.count(what), counts[what]);
            c.due("new: now(" + what + ")", d.now(what), 0);
        }
        c.due("new: fault()", d.fault(), 0);
        c.due("new: man()", Twins.man(d, 0, 0), Twins.THROWN);
        c.due("new: strike()", d.strike(), -1);
        c.due("new: undo()", d.undo(), -1);
        c.due("new: ring()", d.ring(), -1);
        c.due("new: ringAt(0)", d.ringAt(0), -1);
        c.due("new: planned(0)", d.planned(0), -1);
        c.due("new: even()", d.even(), 0);
        c.due("new: fits()", d.fits(), -1);
        c.due("new: tells()", d.tells(), -1);
        c.due("new: taxOf(0)", d.taxOf(0), -1);
        c.due("new: proudest()", d.proudest(), -1);
        c.due("new: byteAt(0)", d.byteAt(0), -1);
        c.due("new: drawn()", d.drawn(1, 1), -1);
        c.due("new: told(0)", d.told(0), -1);
        c.due("new: said(-1)", d.said(-1), -1);
        c.due("new: restore(0)", d.restore(0), false);
        c.due("new: restore(1)", d.restore(1), false);
        c.due("new: duchy() of the empty tape", d.duchy(), 0);
        c.due("new: book() of the empty tape", d.book(0), -1);
        c.due("new: sentence() of the empty tape", d.sentence(), -1);
        c.due("new: its fault", d.fault(), 1);
    }

    /** «A new DUCHY: WEEK 0, PRIDE as told, no CREDIT, nothing done or bought, no SENTENCE.» */
    private static void newDuchy() {
        MerryDuchy d = Twins.lived();
        c.due("LINES", Checks.duchy(d, Twins.DUCHY), 15);
        int[] now = {0, 54, 0, 12, 0, 0};
        int[] told = {30, 20, 4};
        for (int what = 0; what < 6; what++) {
            c.due("new DUCHY: now(" + what + ")", d.now(what), now[what]);
        }
        for (int m = 0; m < 3; m++) {
            c.due("PRIDE", d.man(m, 0), told[m]);
            c.due("as told", d.man(m, 1), told[m]);
            c.due("CREDIT", d.man(m, 2), 0);
            c.due("GOODS", d.man(m, 5), 0);
            c.due("done", d.man(m, 6), 0);
            c.due("paid", d.man(m, 7), 0);
        }
        c.due("STOCK as told", d.good(0, 1), 2);
        c.due("COST as told", d.cost(0, 0), 6);
        c.due("no SENTENCE", d.said(-1), -1);
        c.due("nothing to undo", d.undo(), -1);
        c.due("an image stays", d.restore(1), true);
        c.due("its WEEK", d.now(0), 2);
        Checks.sentence(d, "proud");
        c.due("a smaller one", Checks.duchy(d, "man a 5;forfeit f 3;"), 2);
        int[] small = {0, 5, 0, 0, 0, 0};
        for (int what = 0; what < 6; what++) {
            c.due("a smaller one: now(" + what + ")", d.now(what), small[what]);
        }
        c.due("no SENTENCE of the one ahead", d.said(-1), -1);
        c.due("no debts of the one ahead", d.man(0, 3) + d.man(0, 4), 0);
        for (int t = 4; t <= 40; t++) {
            c.due("no TAX of the one ahead: tax(" + t + ")", d.tax(t), -1);
        }
    }

    /** Promise 2: «Twenty bytes come behind the tape, of each number the highest first» */
    private static void highestFirst() {
        MerryDuchy d = new MerryDuchy();
        c.due("feed()", d.feed(0x6d616e20, 0x61203132, 0x3b666f72, 0x66656974, 0x20622031), 20);
        c.due("behind the tape", d.feed(0x393b0000, 0, 0, 0, 0x3b3b3b3b), 40);
        c.due("end()", d.end(22), true);
        c.due("'man a 12;forfeit b 19;'", d.duchy(), 2);
        c.due("PRIDE", d.man(0, 0), 12);
        c.due("COST", d.cost(0, 0), 19);
        // bytes above 127 are no letters, and are told as FITS' numbers whole
        d.feed(0xff000000, 0, 0, 0, 0);
        d.end(2);
        c.due("255 is no FORFEIT", d.fits(), -1);
        d.feed(0x00ff0000, 0, 0, 0, 0);
        d.end(2);
        c.due("255 is not paid", d.fits(), 0);
        d.feed(0x00130000, 0, 0, 0, 0);
        d.end(2);
        c.due("19 is paid", d.fits(), 1);
    }

    /** Promise 2: «NONE, and none come, if it would have more than 940» */
    private static void fullTape() {
        for (int bytes = 918; bytes <= 940; bytes++) {
            MerryDuchy d = new MerryDuchy();
            Checks.tape(d, Checks.blanks(800) + "man a 7;" + Checks.blanks(bytes - 808));
            boolean room = bytes <= 920;
            c.due("feed() behind " + bytes, d.feed(0x3b3b3b3b, 0, 0, 0, 0), room ? bytes + 20 : -1);
            c.due("bytes", d.count(5), room ? bytes + 20 : bytes);
            c.due("end()", d.end(bytes), true);
            c.due("one more", d.end(bytes + 1), false);
            d.end(900);
            c.due("none came", d.duchy(), 1);
            c.due("its PRIDE", d.man(0, 0), 7);
        }
        MerryDuchy d = new MerryDuchy();
        for (int i = 1; i <= 47; i++) {
            c.due("feed " + i, d.feed(i, i, i, i, i), 20 * i);
        }
        c.due("feed 48", d.feed(0, 0, 0, 0, 0), -1);
        c.due("bytes", d.count(5), 940);
    }

    /** Promise 3: «The tape has its first n bytes alone: true; false, if it has not so many, or n is below 0.» */
    private static void firstBytesAlone() {
        MerryDuchy d = new MerryDuchy();
        c.due("end(0) of an empty tape", d.end(0), true);
        c.due("end(1) of an empty tape", d.end(1), false);
        c.due("end(-1) of an empty tape", d.end(-1), false);
        d.feed(0x77656172, 0x7320333b, 0x6d656e64, 0x7320343b, 0x2e2e2e2e);
        c.due("end(21)", d.end(21), false);
        c.due("end(-1)", d.end(-1), false);
        c.due("bytes", d.count(5), 20);
        c.due("end(20)", d.end(20), true);
        c.due("bytes", d.count(5), 20);
        c.due("end(8)", d.end(8), true);
        c.due("bytes", d.count(5), 8);
        c.due("what is gone does not come back", d.end(16), false);
        c.due("'wears 3;'", d.duchy(), 1);
        c.due("wears", d.count(3), 3);
        c.due("mends", d.count(4), 1);
        d.feed(0, 0, 0, 0, 0);
        c.due("end(0)", d.end(0), true);
        c.due("bytes", d.count(5), 0);
    }

    /** «An object is used for at most 512 calls»: the 512th answers as the first does. */
    private static void lastCallOfAll() {
        MerryDuchy d = new MerryDuchy();
        for (int i = 1; i < 512; i++) {
            c.due("call " + i, d.weeks(1), i <= 200 ? 1 : 0);
        }
        c.due("call 512", d.undo(), 7);
    }

    /** Promise 6, each what by itself. */
    private static void ofMen() {
        MerryDuchy d = Checks.of("man a 20;man b 9;man e 5;forfeit f 6;forfeit h 3;good x 2 9;good y 1 9;good z 1 9;"
                + "owes a b 5;owes a e 4;owes b a 3;wears 2;");
        d.forfeit(0, 0);
        d.forfeit(0, 0);
        d.forfeit(0, 1);
        d.buy(0, 0);
        d.buy(0, 2);
        d.buy(0, 2);
        int[] due = {7, 20, 9, 9, 3, 5, 3, 13};
        for (int what = 0; what < 8; what++) {
            c.due("man(0, " + what + ")", d.man(0, what), due[what]);
        }
        d.weeks(1);
        c.due("so far, whatever mends", d.man(0, 7), 13);
        c.due("the last MAN", d.man(2, 4), 4);
        c.due("no MAN behind him", Twins.man(d, 3, 0), Twins.THROWN);
        c.due("what 8", Twins.man(d, 2, 8), Twins.THROWN);
        c.due("what -1", Twins.man(d, 2, -1), Twins.THROWN);
    }

    /** «less 'wears' for each time that he has done it, 1 at least; 0, if he does not mind it (0)» */
    private static void costs() {
        int[][] byWears = {{5, 5, 5, 5}, {5, 4, 3, 2}, {5, 3, 1, 1}, {5, 2, 1, 1}, {5, 1, 1, 1}, {5, 1, 1, 1}};
        for (int wears = 0; wears < byWears.length; wears++) {
            MerryDuchy d = Checks.of("man a 99;man b 99;forfeit f 5;forfeit h 0;forfeit i 1;minds b h 2;wears " + wears + ";");
            for (int times = 0; times < 4; times++) {
                c.due("COST by wears " + wears + ", done " + times, d.cost(0, 0), byWears[wears][times]);
                c.due("it pays as much", d.forfeit(0, 0), byWears[wears][times]);
                c.due("of another MAN", d.cost(1, 0), 5);
                c.due("not minded", d.cost(0, 1), 0);
                c.due("minded 1", d.cost(0, 2), 1);
                c.due("minded by one alone", d.cost(1, 1), 2);
            }
        }
        MerryDuchy d = Checks.of("man a 99;forfeit f 20;wears 9;");
        int[] due = {20, 11, 2, 1, 1};
        for (int cost : due) {
            c.due("COST of 20 by wears 9", d.forfeit(0, 0), cost);
        }
        c.due("far below 0", d.cost(0, 0), 1);
        c.due("the last FORFEIT", d.cost(0, 0), 1);
        c.due("none behind it", d.cost(0, 1), -1);
    }

    /** Promises 8 to 12: the first and the last one, and none behind. */
    private static void didAndHas() {
        MerryDuchy d = Checks.of("man a 9;man b 9;forfeit f 1;forfeit h 1;good x 1 5;good y 1 5;owes b a 7;");
        d.forfeit(1, 1);
        d.forfeit(1, 1);
        d.buy(1, 1);
        c.due("times", d.times(1, 1), 2);
        c.due("times of the other", d.times(0, 1), 0);
        c.due("times(1, 2)", d.times(1, 2), -1);
        c.due("times(2, 1)", d.times(2, 1), -1);
        c.due("bought", d.bought(1, 1), 1);
        c.due("bought of the other", d.bought(1, 0), 0);
        c.due("bought(1, 2)", d.bought(1, 2), -1);
        c.due("bought(2, 1)", d.bought(2, 1), -1);
        c.due("good(1, 1)", d.good(1, 1), 4);
        c.due("good(1, 2)", d.good(1, 2), -1);
        c.due("good(2, 1)", d.good(2, 1), -1);
        c.due("owes", d.owes(1, 0), 7);
        c.due("owes himself", d.owes(1, 1), 0);
        c.due("owes(1, 2)", d.owes(1, 2), -1);
        c.due("owes(2, 1)", d.owes(2, 1), -1);
        int[] now = {0, 16, 1, 7, 2, 1, -1};
        for (int what = 0; what < now.length; what++) {
            c.due("now(" + what + ")", d.now(what), now[what]);
        }
        c.due("now(-1)", d.now(-1), -1);
        d.forfeit(0, 0);
        d.buy(0, 0);
        c.due("of the first MAN too", d.now(4), 3);
        c.due("of the first GOOD too", d.now(5), 2);
    }

    /** «1 its COST is 0; 2 his PRIDE is less» */
    private static void does() {
        MerryDuchy d = Checks.of("man a 5;man b 4;man e 0;man g 6;forfeit f 5;forfeit h 0;wears 1;");
        c.due("PRIDE as great as COST", d.forfeit(0, 0), 5);
        c.due("PRIDE 0 then", d.man(0, 0), 0);
        c.due("PRIDE 1 less than COST", d.forfeit(1, 0), -3);
        c.due("PRIDE 0", d.forfeit(2, 0), -3);
        c.due("COST 0", d.forfeit(3, 1), -2);
        c.due("both: the least", d.forfeit(2, 1), -2);
        c.due("PRIDE 1 more than COST", d.forfeit(3, 0), 5);
        c.due("PRIDE 1 then", d.man(3, 0), 1);
        c.due("CREDIT as much", d.man(3, 2), 5);
        c.due("COST 4 by then", d.forfeit(3, 0), -3);
        c.due("the last FORFEIT's neighbour", d.forfeit(0, 2), -1);
        c.due("the last MAN's neighbour", d.forfeit(4, 0), -1);
    }

    /** «1 there is none in STOCK; 2 his CREDIT is below its WORTH» */
    private static void buys() {
        MerryDuchy d = Checks.of("man a 9;man b 9;forfeit f 5;good x 5 1;good y 6 1;good z 5 0;good w 4 1;wears 0;");
        d.forfeit(0, 0);
        c.due("CREDIT 1 below WORTH", d.buy(0, 1), 2);
        c.due("none in STOCK", d.buy(0, 2), 1);
        c.due("both: the least", d.buy(1, 2), 1);
        c.due("CREDIT as great as WORTH", d.buy(0, 0), 0);
        c.due("CREDIT 0 then", d.man(0, 2), 0);
        c.due("STOCK 0 then", d.good(0, 1), 0);
        c.due("he has one", d.bought(0, 0), 1);
        d.forfeit(1, 0);
        c.due("the last was sold", d.buy(1, 0), 1);
        c.due("CREDIT 1 above WORTH", d.buy(1, 3), 0);
        c.due("CREDIT 1 then", d.man(1, 2), 1);
        c.due("behind the last GOOD", d.buy(1, 4), -1);
        c.due("behind the last MAN", d.buy(2, 0), -1);
    }

    /** «1 they are alike; 2 his CREDIT is less»; «n (1 to 99)» */
    private static void lends() {
        MerryDuchy d = Checks.of("man a 99;man b 9;forfeit f 20;wears 0;mends 9;");
        for (int i = 0; i < 5; i++) {
            d.forfeit(0, 0);
            d.weeks(3);
        }
        c.due("CREDIT", d.man(0, 2), 100);
        c.due("n 100", d.lend(0, 1, 100), -1);
        c.due("n 0", d.lend(0, 1, 0), -1);
        c.due("alike", d.lend(0, 0, 1), 1);
        c.due("alike, CREDIT less", d.lend(1, 1, 1), 1);
        c.due("n 99", d.lend(0, 1, 99), 0);
        c.due("CREDIT 1 less than n", d.lend(0, 1, 2), 2);
        c.due("n 1, CREDIT as great", d.lend(0, 1, 1), 0);
        c.due("CREDIT 0", d.lend(0, 1, 1), 2);
        c.due("who owes him so much more", d.owes(1, 0), 100);
        c.due("not he", d.owes(0, 1), 0);
        c.due("that one's CREDIT", d.man(1, 2), 100);
        c.due("back as a debt", d.lend(1, 0, 50), 0);
        c.due("both owe", d.owes(0, 1), 50);
        c.due("behind the last MAN", d.lend(0, 2, 1), -1);
        c.due("behind the last MAN", d.lend(2, 0, 1), -1);
    }

    /** «1 he owes him less; 2 his CREDIT is less» */
    private static void repays() {
        MerryDuchy d = Checks.of("man a 99;man b 9;man e 9;forfeit f 5;owes a b 4;owes a e 9;owes b a 99;wears 0;");
        c.due("CREDIT less alone", d.repay(0, 1, 4), 2);
        c.due("both: the least", d.repay(0, 1, 5), 1);
        d.forfeit(0, 0);
        c.due("owes 1 less than n", d.repay(0, 1, 5), 1);
        c.due("CREDIT 1 less than n", d.repay(0, 2, 6), 2);
        c.due("CREDIT as great as n", d.repay(0, 2, 5), 0);
        c.due("he owes so much less", d.owes(0, 2), 4);
        c.due("that one's CREDIT", d.man(2, 2), 5);
        c.due("no more his", d.man(0, 2), 0);
        d.forfeit(0, 0);
        c.due("owes as much as n", d.repay(0, 1, 4), 0);
        c.due("owes nothing then", d.owes(0, 1), 0);
        c.due("owes nothing", d.repay(0, 1, 1), 1);
        c.due("what he is owed is another debt", d.owes(1, 0), 99);
        c.due("n 99", d.repay(1, 0, 99), 2);
        c.due("n 100", d.repay(1, 0, 100), -1);
        c.due("n 0", d.repay(1, 0, 0), -1);
        c.due("himself", d.repay(0, 0, 1), 1);
    }

    /** «1 there is no RING: all debts of the RING are less by the least of them» */
    private static void strikes() {
        MerryDuchy d = Checks.of("man a 1;man b 1;man e 1;owes a b 5;owes b e 2;owes e a 9;");
        c.due("by the least", d.strike(), 2);
        c.due("less", d.owes(0, 1), 3);
        c.due("none", d.owes(1, 2), 0);
        c.due("less", d.owes(2, 0), 7);
        c.due("no RING then", d.strike(), -1);
        c.due("debts stay", d.now(3), 10);
        d = Checks.of("man a 1;man b 1;owes a b 99;owes b a 99;");
        c.due("like debts", d.strike(), 99);
        c.due("no debts then", d.now(3), 0);
        c.due("no RING without debts", d.strike(), -1);
        c.due("no RING of one", Checks.of("man a 1;").strike(), -1);
    }

    /** «A WEEK (0 to 199; 200: all are over)»; promise 18: «n (1 to 60) WEEKS go by: how many did» */
    private static void allWeeks() {
        MerryDuchy d = Checks.of("man a 9;forfeit f 1;");
        c.due("weeks(60)", d.weeks(60), 60);
        c.due("weeks(61)", d.weeks(61), -1);
        c.due("weeks(0)", d.weeks(0), -1);
        c.due("weeks(1)", d.weeks(1), 1);
        d.weeks(60);
        d.weeks(60);
        d.weeks(18);
        c.due("WEEK 199", d.now(0), 199);
        c.due("one is left", d.weeks(2), 1);
        c.due("WEEK 200", d.now(0), 200);
        c.due("all are over", d.weeks(1), 0);
        c.due("still 200", d.now(0), 200);
        c.due("not as told, all over or not", d.weeks(61), -1);
        c.due("a FORFEIT can be done then", d.forfeit(0, 0), 1);
        MerryDuchy nobody = new MerryDuchy();
        for (int i = 0; i < 3; i++) {
            nobody.weeks(60);
        }
        c.due("just so many as are left", nobody.weeks(20), 20);
        c.due("none is left", nobody.weeks(20), 0);
    }

    /** «each MAN's PRIDE is 'mends' more, as much as told at most» */
    private static void mends() {
        MerryDuchy d = Checks.of("man a 20;man b 20;man e 20;man g 0;forfeit f 5;forfeit h 6;forfeit i 4;wears 0;mends 5;");
        d.forfeit(0, 0);
        d.forfeit(1, 1);
        d.forfeit(2, 2);
        d.weeks(1);
        c.due("just as told", d.man(0, 0), 20);
        c.due("1 below it", d.man(1, 0), 19);
        c.due("not above it", d.man(2, 0), 20);
        c.due("none was told", d.man(3, 0), 0);
        d.weeks(60);
        c.due("at most", d.man(1, 0), 20);
        MerryDuchy stiff = Checks.of("man a 20;forfeit f 5;mends 0;");
        stiff.forfeit(0, 0);
        stiff.weeks(60);
        c.due("mends 0", stiff.man(0, 0), 15);
        MerryDuchy quick = Checks.of("man a 99;forfeit f 20;wears 0;mends 9;");
        for (int i = 0; i < 4; i++) {
            quick.forfeit(0, 0);
        }
        quick.weeks(8);
        c.due("8 WEEKS of 9", quick.man(0, 0), 91);
        quick.weeks(1);
        c.due("9 WEEKS of 9", quick.man(0, 0), 99);
    }

    /** Promise 19: «how many more can be»; «NONE: none is» */
    private static void undoes() {
        MerryDuchy d = Checks.of("man a 9;");
        c.due("none was done", d.undo(), -1);
        d.weeks(1);
        c.due("the only one", d.undo(), 0);
        c.due("none is left", d.undo(), -1);
        c.due("WEEK", d.now(0), 0);
        d.weeks(1);
        d.weeks(2);
        c.due("the latest", d.undo(), 1);
        c.due("WEEK", d.now(0), 1);
        d.weeks(4);
        c.due("the latest again", d.undo(), 1);
        c.due("WEEK", d.now(0), 1);
        Checks.duchy(d, "man a 100;");
        c.due("a DUCHY with a FAULT leaves it", d.undo(), 0);
    }

    /** Promise 19: «(8 at most are kept)» */
    private static void eightKept() {
        for (int done = 7; done <= 20; done++) {
            MerryDuchy d = new MerryDuchy();
            for (int i = 0; i < done; i++) {
                d.weeks(i + 1);
            }
            int kept = Math.min(done, 8);
            for (int left = kept - 1; left >= 0; left--) {
                c.due("undo() behind " + done, d.undo(), left);
            }
            c.due("no more", d.undo(), -1);
            int first = done - kept;
            c.due("WEEK", d.now(0), Math.min(200, first * (first + 1) / 2));
        }
    }

    /** Promise 19: «that was done», «weeks() above 0, drawn() above 0, a BOOK that was lived» */
    private static void whatIsUndone() {
        MerryDuchy d = Checks.of("man a 50;man b 9;forfeit f 9;good x 2 9;owes a b 3;owes b a 3;wears 0;");
        d.forfeit(0, 0);
        d.forfeit(1, 5);
        d.buy(0, 0);
        d.buy(1, 0);
        d.lend(0, 1, 2);
        d.lend(0, 0, 2);
        d.repay(0, 1, 1);
        d.repay(0, 1, 99);
        d.strike();
        d.strike();
        d.strike();
        d.weeks(3);
        d.weeks(0);
        d.drawn(1, 5);
        d.drawn(0, 5);
        Checks.book(d, "week 2;", 1);
        Checks.book(d, "week 2;", 0);
        Checks.book(d, "week 0;", 1);
        int[] weeks = {4, 3, 0, 0, 0, 0, 0, 0};
        int[] debts = {3, 3, 3, 7, 8, 6, 6, 6};
        for (int i = 0; i < 8; i++) {
            int left = d.undo();
            c.due("what was refused can't be undone", left, 7 - i);
            c.due("WEEK behind undo " + i, d.now(0), weeks[i]);
            if (i > 1) {
                c.due("debts behind undo " + i, d.now(3), debts[i]);
            }
        }
        c.due("no more", d.undo(), -1);
        MerryDuchy e = new MerryDuchy();
        for (int i = 0; i < 4; i++) {
            e.weeks(50);
        }
        e.weeks(5);
        e.weeks(5);
        c.due("0 WEEKS can't be undone", e.undo(), 3);
        c.due("WEEK", e.now(0), 150);
    }
}
