import java.util.NoSuchElementException;

/** Promises 6 to 12 and 43: man, cost, times, bought, good, owes, now, count. */
public final class StateTest {
    private static final Checks c = new Checks();
    private static final int[] WRONG = {-1, 3, 6, 36, Integer.MAX_VALUE, Integer.MIN_VALUE};

    private static void noSuch(MerryDuchy d, int m, int what) {
        boolean thrown = false;
        try {
            d.man(m, what);
        } catch (NoSuchElementException e) {
            thrown = true;
        }
        c.due("man(" + m + ", " + what + ") throws", thrown, true);
    }

    private static void man(MerryDuchy d, int m, int... due) {
        for (int what = 0; what < due.length; what++) {
            c.due("man(" + m + ", " + what + ")", d.man(m, what), due[what]);
        }
    }

    private static void now(MerryDuchy d, int... due) {
        for (int what = 0; what < due.length; what++) {
            c.due("now(" + what + ")", d.now(what), due[what]);
        }
        c.due("now(6)", d.now(6), -1);
        c.due("now(-1)", d.now(-1), -1);
    }

    public static void main(String[] args) {
        MerryDuchy d = Checks.of("man a 30;man b 20;man e 10;forfeit f 5;forfeit g 9;minds b f 7;minds e f 0;"
                + "good x 3 2;good y 4 1;good z 2 5;owes a b 6;owes a e 3;owes e b 8;wears 3;mends 2;");
        man(d, 0, 30, 30, 0, 9, 0, 0, 0, 0);
        man(d, 1, 20, 20, 0, 0, 14, 0, 0, 0);
        man(d, 2, 10, 10, 0, 8, 3, 0, 0, 0);
        now(d, 0, 60, 0, 17, 0, 0);
        c.due("cost(0,0)", d.cost(0, 0), 5);
        c.due("cost(1,0)", d.cost(1, 0), 7);
        c.due("cost(2,0)", d.cost(2, 0), 0);
        d.forfeit(0, 0);
        d.forfeit(0, 0);
        d.forfeit(0, 1);
        c.due("cost worn", d.cost(0, 0), 1);
        c.due("cost worn once", d.cost(0, 1), 6);
        c.due("cost of another man", d.cost(1, 1), 9);
        c.due("times(0,0)", d.times(0, 0), 2);
        c.due("times(0,1)", d.times(0, 1), 1);
        c.due("times(1,0)", d.times(1, 0), 0);
        d.forfeit(0, 0);
        c.due("cost 1 at least", d.cost(0, 0), 1);
        man(d, 0, 13, 30, 17, 9, 0, 0, 4, 17);
        d.buy(0, 0);
        d.buy(0, 2);
        d.buy(0, 2);
        man(d, 0, 13, 30, 10, 9, 0, 5, 4, 17);
        c.due("bought(0,2)", d.bought(0, 2), 2);
        c.due("bought(0,1)", d.bought(0, 1), 0);
        c.due("bought(1,2)", d.bought(1, 2), 0);
        c.due("good(2,1)", d.good(2, 1), 3);
        c.due("good(2,0)", d.good(2, 0), 2);
        d.repay(0, 1, 2);
        d.lend(0, 2, 4);
        man(d, 0, 13, 30, 4, 7, 4, 5, 4, 17);
        man(d, 2, 10, 10, 4, 12, 3, 0, 0, 0);
        d.weeks(5);
        now(d, 5, 23 + 20 + 10, 4 + 2 + 4, 19, 4, 3);
        c.due("owes(2,0)", d.owes(2, 0), 4);
        c.due("owes(0,2)", d.owes(0, 2), 3);
        c.due("owes(0,0)", d.owes(0, 0), 0);
        for (int wrong : WRONG) {
            for (int what = 0; what < 8; what++) {
                noSuch(d, wrong, what);
            }
            c.due("cost", d.cost(wrong, 0), -1);
            c.due("times", d.times(wrong, 0), -1);
            c.due("bought", d.bought(wrong, 0), -1);
            c.due("bought", d.bought(0, wrong), -1);
            c.due("good", d.good(wrong, 0), -1);
            c.due("owes", d.owes(wrong, 0), -1);
            c.due("owes", d.owes(0, wrong), -1);
        }
        noSuch(d, 0, -1);
        noSuch(d, 0, 8);
        c.due("cost(0,2)", d.cost(0, 2), -1);
        c.due("cost(0,-1)", d.cost(0, -1), -1);
        c.due("times(0,2)", d.times(0, 2), -1);
        c.due("times(0,-1)", d.times(0, -1), -1);
        c.due("good(0,2)", d.good(0, 2), -1);
        c.due("good(0,-1)", d.good(0, -1), -1);
        int[] counts = {3, 2, 3, 3, 2, 0};
        for (int what = 0; what < counts.length; what++) {
            c.due("count(" + what + ")", d.count(what), counts[what]);
        }
        c.due("count(6)", d.count(6), -1);
        c.due("count(-1)", d.count(-1), -1);
        MerryDuchy buyer = Checks.of("man a 30;man b 9;forfeit f 9;good x 1 9;good y 1 9;good z 1 9;");
        buyer.forfeit(0, 0);
        buyer.forfeit(1, 0);
        buyer.buy(0, 0);
        buyer.buy(0, 1);
        buyer.buy(0, 2);
        buyer.buy(1, 1);
        now(buyer, 0, 21, 14, 0, 2, 4);
        man(buyer, 1, 0, 9, 8, 0, 0, 2, 1, 9);
        MerryDuchy unworn = Checks.of("man a 30;forfeit f 5;wears 0;");
        unworn.forfeit(0, 0);
        c.due("wears 0", unworn.cost(0, 0), 5);
        c.end("StateTest");
    }
}
