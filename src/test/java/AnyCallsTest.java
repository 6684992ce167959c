import java.lang.management.ManagementFactory;
import java.util.NoSuchElementException;
import java.util.Random;

/** Any calls in any state: none throws but man(), none makes objects, and the same calls answer the same. */
public final class AnyCallsTest {
    private static final Checks c = new Checks();
    private static final String[] WORDS = ("man forfeit minds good owes wears mends does buys lends repays strike week or and not "
            + "proud owing has did pride credit debts number a b e f g h x y z ; ; ; ; < = > ( ) . 0 1 2 5 20 99 100 1000 abcdefgh").split(" ");

    public static void main(String[] args) {
        for (int run = 0; run < 300; run++) {
            c.due("run " + run + " answers the same", answers(run), answers(run));
        }
        com.sun.management.ThreadMXBean threads = (com.sun.management.ThreadMXBean) ManagementFactory.getThreadMXBean();
        MerryDuchy d = Checks.of("man a 50;man b 60;forfeit f 9;forfeit g 3;good x 2 9;owes a b 4;owes b a 3;");
        allocates(d);
        long before = threads.getCurrentThreadAllocatedBytes();
        long beforeAgain = threads.getCurrentThreadAllocatedBytes();
        allocates(d);
        long made = threads.getCurrentThreadAllocatedBytes() - beforeAgain - (beforeAgain - before);
        c.due("calls make no objects (" + made + " bytes)", made < 512, true);
        c.end("AnyCallsTest");
    }

    /** A call of each sort that could be tempted to make a row. */
    private static void allocates(MerryDuchy d) {
        d.feed(0x77656b20, 0x313b0000, 0, 0, 0);
        d.duchy();
        d.feed(0x7765656b, 0x20313b20, 0x20202020, 0x20202020, 0x20202020);
        d.book(0);
        d.feed(0x7765656b, 0x20313b20, 0x20202020, 0x20202020, 0x20202020);
        d.book(1);
        d.feed(0x70726f75, 0x64206f72, 0x206e6f74, 0x2070726f, 0x75642020);
        d.sentence();
        d.said(-1);
        d.forfeit(0, 0);
        d.strike();
        d.ring();
        d.plan(0, 12);
        d.tax(6);
        d.even();
        d.share(10, 3, 0);
        d.list(0);
        d.drawn(2, 3);
        d.odds(0, 30, 3);
        d.feed(0x00090000, 0, 0, 0, 0);
        d.end(2);
        d.fits();
        d.image(0);
        d.restore(0);
        d.undo();
    }

    private static long answers(int run) {
        Random random = new Random(run);
        MerryDuchy d = new MerryDuchy();
        long sum = 0;
        for (int i = 0; i < 512; i++) {
            sum = sum * 31 + call(d, random);
        }
        return sum;
    }

    private static int number(Random random) {
        switch (random.nextInt(6)) {
            case 0:
                return random.nextInt();
            case 1:
                return random.nextInt(250) - 20;
            default:
                return random.nextInt(8) - 1;
        }
    }

    private static int text(MerryDuchy d, Random random) {
        StringBuilder text = new StringBuilder();
        int kind = random.nextInt(5);
        if (kind == 0) {
            text.append("man a 40;man b 30;man e 20;forfeit f 9;forfeit g 4;good x 3 9;good y 9 2;owes a b 3;owes b a 9;");
        }
        for (int i = random.nextInt(kind == 1 ? 300 : 12); i > 0; i--) {
            text.append(WORDS[random.nextInt(WORDS.length)]).append(random.nextInt(4) == 0 ? "" : " ");
        }
        if (kind == 2) {
            text.append("a does f;b does g;a lends b 1;week 2;strike;");
        }
        if (kind == 3) {
            text.setLength(0);
            text.append("not(proud or has x)and pride>3 or owing a");
        }
        if (random.nextInt(9) == 0 && text.length() > 0) {
            text.setCharAt(random.nextInt(text.length()), (char) random.nextInt(256));
        }
        Checks.tape(d, text.length() > 940 ? text.substring(0, 940) : text.toString());
        switch (kind) {
            case 0:
            case 1:
                return d.duchy();
            case 2:
                return d.book(random.nextInt(2));
            default:
                return d.sentence();
        }
    }

    private static int call(MerryDuchy d, Random random) {
        int a = number(random);
        int b = number(random);
        int n = number(random);
        switch (random.nextInt(46)) {
            case 0: return d.feed(a, b, n, a, b);
            case 1: return d.end(a) ? 1 : 0;
            case 2: return d.duchy();
            case 3: return d.fault();
            case 4: return man(d, a, b);
            case 5: return d.cost(a, b);
            case 6: return d.times(a, b);
            case 7: return d.bought(a, b);
            case 8: return d.good(a, b);
            case 9: return d.owes(a, b);
            case 10: return d.now(a);
            case 11: return d.forfeit(a, b);
            case 12: return d.buy(a, b);
            case 13: return d.lend(a, b, n);
            case 14: return d.repay(a, b, n);
            case 15: return d.strike();
            case 16: return d.weeks(a);
            case 17: return d.undo();
            case 18: return d.ring();
            case 19: return d.ringAt(a);
            case 20: return d.plan(a, b);
            case 21: return d.planned(a);
            case 22: return d.lasts(a, b);
            case 23: return d.worth(a, b);
            case 24: return d.even();
            case 25: return d.fits();
            case 26: return d.tells();
            case 27: return d.share(a, b, n);
            case 28: return d.tax(a);
            case 29: return d.taxOf(a);
            case 30: return d.proudest();
            case 31: return d.list(a);
            case 32: return d.byteAt(a);
            case 33: return d.drawn(a, b);
            case 34: return d.odds(a, b, n);
            case 35: return d.book(a);
            case 36: return d.told(a);
            case 37: return d.sentence();
            case 38: return d.said(a);
            case 39: return d.image(a) ? 1 : 0;
            case 40: return d.restore(a) ? 1 : 0;
            case 41: return d.count(a);
            case 42: return d.end(random.nextInt(3)) ? d.fits() : 7;
            default: return text(d, random);
        }
    }

    private static int man(MerryDuchy d, int m, int what) {
        try {
            return d.man(m, what);
        } catch (NoSuchElementException e) {
            return -77;
        }
    }
}
