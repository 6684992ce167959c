/** Promises 13 to 19: forfeit, buy, lend, repay, strike, weeks, undo. */
public final class ActsTest {
    private static final Checks c = new Checks();

    public static void main(String[] args) {
        forfeits();
        goods();
        debts();
        strikes();
        weeks();
        undone();
        c.end("ActsTest");
    }

    private static void forfeits() {
        MerryDuchy d = Checks.of("man a 9;man b 4;forfeit f 5;forfeit g 0;wears 2;");
        c.due("does", d.forfeit(0, 0), 5);
        c.due("PRIDE", d.man(0, 0), 4);
        c.due("CREDIT", d.man(0, 2), 5);
        c.due("does it again", d.forfeit(0, 0), 3);
        c.due("PRIDE", d.man(0, 0), 1);
        c.due("just enough PRIDE", d.forfeit(0, 0), 1);
        c.due("too little PRIDE", d.forfeit(0, 0), -3);
        c.due("COST 0", d.forfeit(0, 1), -2);
        c.due("too little from the first", d.forfeit(1, 0), -3);
        c.due("times stay", d.times(1, 0), 0);
        c.due("no such forfeit", d.forfeit(0, 2), -1);
        c.due("no such forfeit", d.forfeit(0, -1), -1);
        c.due("no such man", d.forfeit(2, 0), -1);
        c.due("no such man", d.forfeit(-1, 0), -1);
        MerryDuchy poor = Checks.of("man a 0;forfeit g 0;");
        c.due("COST 0 is the least why", poor.forfeit(0, 0), -2);
    }

    private static void goods() {
        MerryDuchy d = Checks.of("man a 9;forfeit f 5;good x 4 1;good y 2 0;good z 1 9;wears 0;");
        c.due("no CREDIT", d.buy(0, 0), 2);
        c.due("no STOCK, the least", d.buy(0, 1), 1);
        d.forfeit(0, 0);
        c.due("buys", d.buy(0, 0), 0);
        c.due("CREDIT", d.man(0, 2), 1);
        c.due("STOCK", d.good(0, 1), 0);
        c.due("has", d.bought(0, 0), 1);
        c.due("no STOCK", d.buy(0, 0), 1);
        c.due("just enough", d.buy(0, 2), 0);
        c.due("too little", d.buy(0, 2), 2);
        c.due("no such", d.buy(0, 3), -1);
        c.due("no such", d.buy(0, -1), -1);
        c.due("no such", d.buy(1, 0), -1);
        c.due("no such", d.buy(-1, 0), -1);
    }

    private static void debts() {
        MerryDuchy d = Checks.of("man a 20;man b 5;forfeit f 10;owes b a 3;wears 0;");
        d.forfeit(0, 0);
        c.due("lends himself", d.lend(0, 0, 1), 1);
        c.due("lends himself too much", d.lend(0, 0, 99), 1);
        c.due("too little", d.lend(0, 1, 11), 2);
        c.due("lends", d.lend(0, 1, 10), 0);
        c.due("CREDIT", d.man(0, 2), 0);
        c.due("CREDIT", d.man(1, 2), 10);
        c.due("owes", d.owes(1, 0), 13);
        c.due("owes not", d.owes(0, 1), 0);
        c.due("owes less", d.repay(1, 0, 14), 1);
        c.due("CREDIT is less", d.repay(1, 0, 11), 2);
        c.due("repays", d.repay(1, 0, 10), 0);
        c.due("owes", d.owes(1, 0), 3);
        c.due("CREDIT", d.man(0, 2), 10);
        c.due("CREDIT", d.man(1, 2), 0);
        c.due("owes nothing", d.repay(0, 1, 1), 1);
        c.due("owes himself nothing", d.repay(0, 0, 1), 1);
        int[][] wrong = {{0, 1, 0}, {0, 1, -1}, {0, 1, 100}, {0, 2, 1}, {2, 0, 1}, {-1, 0, 1}, {0, -1, 1}, {0, 0, 0}};
        for (int[] w : wrong) {
            c.due("lend NONE", d.lend(w[0], w[1], w[2]), -1);
            c.due("repay NONE", d.repay(w[0], w[1], w[2]), -1);
        }
        c.due("n 99", d.lend(0, 1, 99), 2);
        c.due("n 99", d.repay(1, 0, 99), 1);
    }

    private static void strikes() {
        MerryDuchy d = Checks.of("man a 1;man b 1;man e 1;owes a b 7;owes b e 5;owes e a 4;owes a e 2;");
        c.due("strikes the small ring", d.strike(), 2);
        c.due("owes", d.owes(0, 2), 0);
        c.due("owes", d.owes(2, 0), 2);
        c.due("owes", d.owes(0, 1), 7);
        c.due("strikes the great ring", d.strike(), 2);
        c.due("owes", d.owes(2, 0), 0);
        c.due("owes", d.owes(0, 1), 5);
        c.due("owes", d.owes(1, 2), 3);
        c.due("none left", d.strike(), -1);
        c.due("the ring asked for is not the one struck", d.ringAt(0), -1);
        c.due("undo", d.undo(), 1);
        c.due("owes", d.owes(2, 0), 2);
    }

    private static void weeks() {
        MerryDuchy d = Checks.of("man a 20;man b 3;forfeit f 10;wears 0;mends 3;");
        d.forfeit(0, 0);
        c.due("a week", d.weeks(1), 1);
        c.due("PRIDE", d.man(0, 0), 13);
        c.due("PRIDE as told at most", d.man(1, 0), 3);
        c.due("weeks", d.weeks(2), 2);
        c.due("PRIDE", d.man(0, 0), 19);
        c.due("a week", d.weeks(1), 1);
        c.due("PRIDE as told", d.man(0, 0), 20);
        c.due("WEEK", d.now(0), 4);
        c.due("weeks(0)", d.weeks(0), -1);
        c.due("weeks(-1)", d.weeks(-1), -1);
        c.due("weeks(61)", d.weeks(61), -1);
        c.due("weeks(60)", d.weeks(60), 60);
        d.weeks(60);
        d.weeks(60);
        c.due("WEEK", d.now(0), 184);
        c.due("the last", d.weeks(60), 16);
        c.due("WEEK", d.now(0), 200);
        c.due("all are over", d.weeks(1), 0);
        c.due("NONE comes first", d.weeks(0), -1);
        c.due("what did not go by is not undone", d.undo(), 7);
        c.due("WEEK", d.now(0), 184);
        c.due("done when all are over", d.weeks(16) + d.forfeit(0, 0), 26);
        MerryDuchy stiff = Checks.of("man a 20;forfeit f 10;mends 0;");
        stiff.forfeit(0, 0);
        stiff.weeks(9);
        c.due("mends 0", stiff.man(0, 0), 10);
    }

    private static void undone() {
        MerryDuchy d = Checks.of("man a 50;man b 20;forfeit f 5;good x 2 3;good y 90 1;owes a b 4;owes b a 3;wears 1;mends 2;");
        c.due("nothing done", d.undo(), -1);
        d.forfeit(0, 0);
        d.forfeit(0, 0);
        d.buy(0, 0);
        d.lend(0, 1, 1);
        d.repay(0, 1, 2);
        d.strike();
        d.weeks(1);
        c.due("too dear", d.buy(1, 1), 2);
        c.due("no such", d.buy(1, 2), -1);
        c.due("undo weeks", d.undo(), 6);
        c.due("WEEK", d.now(0), 0);
        c.due("PRIDE", d.man(0, 0), 41);
        c.due("undo strike", d.undo(), 5);
        c.due("owes", d.owes(0, 1), 2);
        c.due("owes", d.owes(1, 0), 4);
        c.due("undo repay", d.undo(), 4);
        c.due("owes", d.owes(0, 1), 4);
        c.due("CREDIT", d.man(1, 2), 1);
        c.due("undo lend", d.undo(), 3);
        c.due("owes", d.owes(1, 0), 3);
        c.due("CREDIT", d.man(0, 2), 7);
        c.due("undo buy", d.undo(), 2);
        c.due("CREDIT", d.man(0, 2), 9);
        c.due("STOCK", d.good(0, 1), 3);
        c.due("has", d.bought(0, 0), 0);
        c.due("undo forfeit", d.undo(), 1);
        c.due("times", d.times(0, 0), 1);
        c.due("paid", d.man(0, 7), 5);
        c.due("PRIDE", d.man(0, 0), 45);
        c.due("undo forfeit", d.undo(), 0);
        c.due("paid", d.man(0, 7), 0);
        c.due("no more", d.undo(), -1);
        for (int i = 0; i < 12; i++) {
            d.weeks(1);
        }
        c.due("8 are kept", d.undo(), 7);
        d.drawn(2, 5);
        c.due("drawn", d.now(0), 13);
        c.due("drawn is undone", d.undo(), 7);
        c.due("WEEK", d.now(0), 11);
        Checks.book(d, "a does f;week 3;", 1);
        c.due("WEEK", d.now(0), 14);
        Checks.book(d, "week 3;", 0);
        Checks.book(d, "week 3", 1);
        c.due("a BOOK lived is undone", d.undo(), 7);
        c.due("WEEK", d.now(0), 11);
        c.due("done", d.now(4), 0);
        Checks.sentence(d, "proud");
        for (int left = 6; left >= 0; left--) {
            c.due("undo", d.undo(), left);
        }
        c.due("undo no more", d.undo(), -1);
        c.due("WEEK", d.now(0), 4);
        c.due("the SENTENCE stays", d.said(-1), 2);
    }
}
