import java.util.NoSuchElementException;
import java.util.Random;

/** Random runs of at most 512 calls, asked of MerryDuchy and of the Model: all promises, in any order and state. */
public final class ModelTest {
    private static final Checks c = new Checks();
    private static final String[] MEN = {"a", "b", "duke", "e", "fool", "g", "h"};
    private static final String[] FORFEITS = {"jig", "k", "limp", "m", "n", "o", "p"};
    private static final String[] GOODS = {"q", "robe", "s", "t", "u", "v", "w"};
    private static final String[] ANY = ("man forfeit minds good owes wears mends does buys lends repays strike week or and not proud "
            + "owing has did pride credit debts number zed abcdefgh 1000 0 1 9 21 61 100 ; < = > ( ) . a b jig q robe").split(" ");

    private final Random random;
    private final String run;
    private final MerryDuchy d = new MerryDuchy();
    private final Model model = new Model();
    private int calls;

    private ModelTest(int seed) {
        random = new Random(seed);
        run = "run " + seed;
    }

    public static void main(String[] args) {
        int runs = args.length > 0 ? Integer.parseInt(args[0]) : 1500;
        for (int seed = 0; seed < runs; seed++) {
            ModelTest t = new ModelTest(seed);
            if (seed % 8 != 0) {
                t.text(t.duchyText(true), 0);
                t.d.image(0);
                t.model.image(0);
            }
            while (t.calls < 460) {
                t.anyCall();
            }
        }
        c.end("ModelTest");
    }

    private void due(String call, int got, int want) {
        calls++;
        c.due(run + ", call " + calls + ": " + call, got, want);
    }

    private int upTo(int n) {
        return random.nextInt(n + 1);
    }

    private boolean rarely() {
        return random.nextInt(12) == 0;
    }

    /** A number of a MAN, FORFEIT or GOOD, mostly one that may be. */
    private int some() {
        switch (random.nextInt(40)) {
            case 0:
                return -1;
            case 1:
                return 6;
            case 2:
                return random.nextInt();
            default:
                return random.nextInt(rarely() ? 6 : 3);
        }
    }

    /** A number mostly from 0 to that, or just beside it. */
    private int near(int greatest) {
        switch (random.nextInt(12)) {
            case 0:
                return greatest;
            case 1:
                return greatest + 1;
            case 2:
                return -random.nextInt(2);
            default:
                return upTo(greatest);
        }
    }

    private void anyCall() {
        int kind = random.nextInt(100);
        if (kind < 10) {
            anyText();
        } else if (kind < 45) {
            act();
        } else if (kind < 60) {
            ask();
        } else if (kind < 75) {
            askMore();
        } else {
            askLatest();
        }
    }

    private void act() {
        int m = some();
        int k = some();
        int n = near(rarely() ? 99 : 6);
        int weeks = random.nextInt(4) == 0 ? near(60) : 1 + upTo(4);
        int seed = random.nextInt();
        switch (random.nextInt(13)) {
            case 0, 1, 2 -> due("forfeit(" + m + ", " + k + ")", d.forfeit(m, k), model.forfeit(m, k));
            case 3, 4 -> due("buy(" + m + ", " + k + ")", d.buy(m, k), model.buy(m, k));
            case 5 -> due("lend(" + m + ", " + k + ", " + n + ")", d.lend(m, k, n), model.lend(m, k, n));
            case 6 -> due("repay(" + m + ", " + k + ", " + n + ")", d.repay(m, k, n), model.repay(m, k, n));
            case 7 -> due("strike()", d.strike(), model.strike());
            case 8 -> due("weeks(" + weeks + ")", d.weeks(weeks), model.weeks(weeks));
            case 9 -> due("undo()", d.undo(), model.undo());
            case 10 -> due("drawn(" + weeks + ", " + seed + ")", d.drawn(weeks, seed), model.drawn(weeks, seed));
            case 11 -> {
                int place = random.nextInt(9) == 0 ? some() : random.nextInt(2);
                due("image(" + place + ")", d.image(place) ? 1 : 0, model.image(place) ? 1 : 0);
            }
            default -> {
                int place = random.nextInt(9) == 0 ? some() : random.nextInt(2);
                due("restore(" + place + ")", d.restore(place) ? 1 : 0, model.restore(place) ? 1 : 0);
            }
        }
    }

    private void ask() {
        int m = some();
        int k = some();
        int what = near(7);
        switch (random.nextInt(9)) {
            case 0, 1 -> due("man(" + m + ", " + what + ")", Twins.man(d, m, what), modelMan(m, what));
            case 2 -> due("cost(" + m + ", " + k + ")", d.cost(m, k), model.cost(m, k));
            case 3 -> due("times(" + m + ", " + k + ")", d.times(m, k), model.times(m, k));
            case 4 -> due("bought(" + m + ", " + k + ")", d.bought(m, k), model.bought(m, k));
            case 5 -> due("good(" + m + ", " + what + ")", d.good(m, what % 3), model.good(m, what % 3));
            case 6 -> due("owes(" + m + ", " + k + ")", d.owes(m, k), model.owes(m, k));
            case 7 -> due("now(" + what + ")", d.now(what), model.now(what));
            default -> due("count(" + what + ")", d.count(what), model.count(what));
        }
    }

    private void askMore() {
        int m = some();
        int k = some();
        int n = near(rarely() ? 200 : 40);
        int share = near(999);
        int set = rarely() ? random.nextInt() : random.nextInt(8);
        int seed = random.nextInt();
        int seeds = near(30);
        switch (random.nextInt(11)) {
            case 0 -> due("ring()", d.ring(), model.ring());
            case 1 -> due("plan(" + m + ", " + n + ")", d.plan(m, n), model.plan(m, n));
            case 2 -> due("lasts(" + m + ", " + k + ")", d.lasts(m, k), model.lasts(m, k));
            case 3 -> due("worth(" + m + ", " + k + ")", d.worth(m, k), model.worth(m, k));
            case 4 -> due("even()", d.even(), model.even());
            case 5 -> due("share(" + share + ", " + set + ", " + m + ")", d.share(share, set, m), model.share(share, set, m));
            case 6 -> due("tax(" + n + ")", d.tax(n), model.tax(n));
            case 7 -> due("proudest()", d.proudest(), model.proudest());
            case 8 -> due("list(" + m + ")", d.list(m), model.list(m));
            case 9 -> due("odds(" + m + ", " + seeds + ", " + seed + ")", d.odds(m, seeds, seed), model.odds(m, seeds, seed));
            default -> fits();
        }
    }

    private void askLatest() {
        int i = some();
        int at = near(20);
        switch (random.nextInt(8)) {
            case 0 -> due("ringAt(" + i + ")", d.ringAt(i), model.ringAt(i));
            case 1 -> due("planned(" + i + ")", d.planned(i), model.planned(i));
            case 2 -> due("tells()", d.tells(), model.tells());
            case 3 -> due("taxOf(" + i + ")", d.taxOf(i), model.taxOf(i));
            case 4 -> due("byteAt(" + at + ")", d.byteAt(at), model.byteAt(at));
            case 5 -> due("told(" + i + ")", d.told(i), model.told(i));
            case 6 -> due("said(" + (i - 1) + ")", d.said(i - 1), model.said(i - 1));
            default -> due("fault()", d.fault(), model.fault());
        }
    }

    private int modelMan(int m, int what) {
        try {
            return model.man(m, what);
        } catch (NoSuchElementException e) {
            return Twins.THROWN;
        }
    }

    private void feed(String text) {
        int[] n = new int[5];
        for (int from = 0; from < text.length(); from += 20) {
            for (int i = 0; i < 20; i++) {
                int b = from + i < text.length() ? text.charAt(from + i) & 255 : 33 + random.nextInt(90);
                n[i / 4] = n[i / 4] << 8 | b;
            }
            due("feed()", d.feed(n[0], n[1], n[2], n[3], n[4]), model.feed(n[0], n[1], n[2], n[3], n[4]));
        }
        int end = text.length();
        due("end(" + end + ")", d.end(end) ? 1 : 0, model.end(end) ? 1 : 0);
    }

    private void text(String text, int kind) {
        feed(text);
        int lives = rarely() ? some() : random.nextInt(2);
        switch (kind) {
            case 0 -> due("duchy() '" + text + "'", d.duchy(), model.duchy());
            case 1 -> due("book(" + lives + ") '" + text + "'", d.book(lives), model.book(lives));
            default -> due("sentence() '" + text + "'", d.sentence(), model.sentence());
        }
        due("fault() of '" + text + "'", d.fault(), model.fault());
        int n = random.nextInt(3);
        due("end(" + n + ")", d.end(n) ? 1 : 0, model.end(n) ? 1 : 0);
    }

    private void anyText() {
        int kind = random.nextInt(9);
        int most = kind == 0 ? 900 : kind < 5 ? 400 : 200;
        String text = kind == 0 ? duchyText(random.nextInt(4) > 0) : kind < 5 ? bookText() : sentenceText(0);
        if (random.nextInt(3) == 0) {
            text = spoilt(text);
        }
        if (random.nextInt(10) == 0 && calls < 300) {
            int at = upTo(text.length());
            int wide = Math.max(0, most - text.length() - 3 + upTo(14));
            text = text.substring(0, at) + Checks.blanks(wide) + text.substring(at);
        }
        text(text.length() > 940 ? text.substring(0, 940) : text, kind == 0 ? 0 : kind < 5 ? 1 : 2);
    }

    private String spoilt(String text) {
        int at = upTo(text.length());
        String tail = text.substring(at);
        switch (random.nextInt(5)) {
            case 0:
                return text.substring(0, at);
            case 1:
                return text.substring(0, at) + ANY[random.nextInt(ANY.length)] + tail;
            case 2:
                return text.substring(0, at) + " " + ANY[random.nextInt(ANY.length)] + " " + tail;
            case 3:
                return text.substring(0, at) + (char) random.nextInt(256) + tail;
            default:
                return text.substring(0, at) + (tail.isEmpty() ? "" : tail.substring(1));
        }
    }

    private String blank() {
        return random.nextInt(8) == 0 ? " \n" : " ";
    }

    private String one(String[] names) {
        return names[random.nextInt(rarely() ? 7 : 4)];
    }

    private int bad(int least, int greatest) {
        return random.nextInt(150) == 0 ? random.nextInt(2) == 0 ? greatest + 1 : Math.max(0, least - 1) : least + upTo(greatest - least);
    }

    private String duchyText(boolean whole) {
        StringBuilder text = new StringBuilder();
        int men = whole ? 2 + upTo(3) : random.nextInt(20) == 0 ? 7 : upTo(4);
        int forfeits = whole ? 2 + upTo(3) : random.nextInt(20) == 0 ? 7 : upTo(4);
        int goods = whole ? 1 + upTo(3) : random.nextInt(20) == 0 ? 7 : upTo(4);
        int great = random.nextInt(2) == 0 ? 5 : 20;
        for (int i = 0; i < men; i++) {
            text.append("man ").append(MEN[i]).append(blank()).append(bad(0, 99)).append(";");
        }
        for (int i = 0; i < forfeits; i++) {
            text.append("forfeit ").append(FORFEITS[i]).append(" ").append(bad(0, great)).append(";");
        }
        for (int i = 0; i < goods; i++) {
            text.append("good ").append(GOODS[i]).append(" ").append(bad(1, rarely() ? 99 : 9)).append(" ").append(bad(0, 20)).append(blank()).append(";");
        }
        for (int m = 0; m < men; m++) {
            for (int k = 0; k < 6; k++) {
                if (k < forfeits && upTo(3) == 0) {
                    text.append("minds ").append(MEN[m]).append(" ").append(FORFEITS[k]).append(" ").append(bad(0, great)).append(";");
                }
                if (k < men && k != m && upTo(2) == 0) {
                    text.append("owes ").append(MEN[m]).append(" ").append(MEN[k]).append(" ").append(bad(1, 9)).append(";");
                }
            }
        }
        if (upTo(2) > 0) {
            text.append("wears ").append(bad(0, rarely() ? 9 : 3)).append(";");
        }
        if (upTo(2) > 0) {
            text.append("\nmends ").append(bad(0, 9)).append(";");
        }
        return text.toString();
    }

    private String bookText() {
        StringBuilder text = new StringBuilder();
        boolean many = random.nextInt(15) == 0;
        int lines = many ? 39 + upTo(3) : upTo(7);
        for (int i = 0; i < lines; i++) {
            String m = one(MEN);
            switch (many ? 5 + upTo(1) : random.nextInt(7)) {
                case 0, 1 -> text.append(m).append(" does ").append(one(FORFEITS));
                case 2 -> text.append(m).append(" buys ").append(one(GOODS));
                case 3 -> text.append(m).append(" lends ").append(one(MEN)).append(" ").append(bad(1, 5));
                case 4 -> text.append(m).append(" repays ").append(one(MEN)).append(" ").append(bad(1, 5));
                case 5 -> text.append("strike").append(rarely() ? blank() : "");
                default -> text.append("week ").append(bad(1, rarely() ? 60 : 3));
            }
            text.append(";");
        }
        return text.toString();
    }

    private String sentenceText(int depth) {
        StringBuilder text = new StringBuilder();
        int ones = random.nextInt(40) == 0 ? 19 + upTo(3) : 1 + upTo(depth > 0 ? 1 : 3);
        for (int i = 0; i < ones; i++) {
            text.append(i == 0 ? "" : random.nextInt(2) == 0 ? " or " : " and ");
            switch (random.nextInt(11)) {
                case 0, 1 -> text.append("not ".repeat(rarely() ? 6 + upTo(3) : 1)).append(depth < 9 ? sentenceText(depth + 1) : "proud");
                case 2, 3 -> {
                    int within = rarely() ? 5 + upTo(4) : 1;
                    text.append("(".repeat(within)).append(depth < 9 ? sentenceText(depth + 1) : "proud").append(")".repeat(within));
                }
                case 4 -> text.append("proud");
                case 5 -> text.append("owing ").append(one(MEN));
                case 6 -> text.append("has ").append(one(GOODS));
                case 7 -> text.append("did").append(blank()).append(one(FORFEITS));
                case 8 -> text.append("credit").append("<=>".charAt(random.nextInt(3))).append(upTo(12));
                case 9 -> text.append("pride ").append("<=>".charAt(random.nextInt(3))).append(upTo(99));
                default -> text.append(random.nextInt(2) == 0 ? "debts" : "number").append("<=>".charAt(random.nextInt(3))).append(upTo(6));
            }
        }
        return text.toString();
    }

    /** Mostly what some MAN would pay. */
    private void fits() {
        int pairs = rarely() ? 9 + upTo(3) : 1 + upTo(2);
        int m = random.nextInt(4);
        StringBuilder bytes = new StringBuilder();
        for (int i = 0; i < pairs; i++) {
            int f = rarely() ? some() & 255 : random.nextInt(3);
            int cost = model.cost(m, f);
            bytes.append((char) f).append((char) (rarely() || cost < 0 ? upTo(20) : cost));
        }
        if (rarely()) {
            bytes.append((char) 1);
        }
        feed(bytes.toString());
        due("fits()", d.fits(), model.fits());
        due("tells()", d.tells(), model.tells());
    }
}
