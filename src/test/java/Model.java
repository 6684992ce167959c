import java.util.ArrayDeque;
import java.util.ArrayList;
import java.util.Arrays;
import java.util.Deque;
import java.util.List;
import java.util.NoSuchElementException;
import java.util.function.IntPredicate;
import java.util.regex.Matcher;
import java.util.regex.Pattern;

/**
 * The document once more, with the whole library: slow, and plain where the class is sparing. ModelTest asks both the
 * same. It was written behind the class and by the same hand, so it finds slips of the code, not words read wrongly.
 */
final class Model {
    private static final List<String> WORDS = List.of("man", "forfeit", "minds", "good", "owes", "wears", "mends", "does",
            "buys", "lends", "repays", "strike", "week", "or", "and", "not", "proud", "owing", "has", "did", "pride", "credit",
            "debts", "number");

    /** A FAULT ends the reading of a text. */
    private static final class Fault extends RuntimeException {
        private static final long serialVersionUID = 1;
        final int kind;
        final int place;

        Fault(int kind, int place) {
            this.kind = kind;
            this.place = place;
        }
    }

    private record Token(String text, int place) {
        boolean isNumber() {
            return text.matches("[0-9]{1,3}");
        }

        boolean isName() {
            return text.matches("[a-z]{1,7}") && !WORDS.contains(text);
        }
    }

    /** The TOKENS of a text; behind them one of no text stands for its end, or for the most bytes told. */
    private static final class Reader {
        private final Deque<Token> tokens = new ArrayDeque<>();

        Reader(String text, int most) {
            Matcher m = Pattern.compile("[a-z0-9]+|[^ \\n]", Pattern.DOTALL).matcher(text);
            while (m.find() && m.start() < most) {
                tokens.add(new Token(m.group(), m.start()));
            }
            tokens.add(text.length() > most ? new Token("?", most) : new Token("", text.length()));
        }

        boolean atEnd() {
            return tokens.element().text.isEmpty();
        }

        boolean sees(String... texts) {
            return Arrays.asList(texts).contains(tokens.element().text);
        }

        int place() {
            return tokens.element().place;
        }

        String take(String... texts) {
            if (!sees(texts)) {
                throw new Fault(1, place());
            }
            return tokens.remove().text;
        }

        int number(int least, int greatest) {
            Token t = tokens.element();
            if (!t.isNumber()) {
                throw new Fault(1, t.place);
            }
            int n = Integer.parseInt(t.text);
            if (n < least || n > greatest) {
                throw new Fault(2, t.place);
            }
            tokens.remove();
            return n;
        }

        String newName(List<List<String>> told) {
            Token t = tokens.element();
            if (!t.isName()) {
                throw new Fault(1, t.place);
            }
            if (told.stream().anyMatch(names -> names.contains(t.text))) {
                throw new Fault(3, t.place);
            }
            return tokens.remove().text;
        }

        int name(List<String> told) {
            Token t = tokens.element();
            if (!t.isName()) {
                throw new Fault(1, t.place);
            }
            if (!told.contains(t.text)) {
                throw new Fault(3, t.place);
            }
            tokens.remove();
            return told.indexOf(t.text);
        }
    }

    /** A DUCHY and all that is so. */
    private static final class All {
        List<String> men = new ArrayList<>();
        List<String> forfeits = new ArrayList<>();
        List<String> goods = new ArrayList<>();
        int[] told = new int[6];
        int[] worth = new int[6];
        int[][] minds = new int[6][6];
        int wears = 1;
        int mends = 1;
        int week;
        int[] pride = new int[6];
        int[] credit = new int[6];
        int[] stock = new int[6];
        int[] paid = new int[6];
        int[][] owes = new int[6][6];
        int[][] times = new int[6][6];
        int[][] bought = new int[6][6];
        IntPredicateOf sentence;

        All copy() {
            All a = new All();
            a.men = men;
            a.forfeits = forfeits;
            a.goods = goods;
            a.told = told;
            a.worth = worth;
            a.minds = minds;
            a.wears = wears;
            a.mends = mends;
            a.week = week;
            a.pride = pride.clone();
            a.credit = credit.clone();
            a.stock = stock.clone();
            a.paid = paid.clone();
            a.owes = rows(owes);
            a.times = rows(times);
            a.bought = rows(bought);
            a.sentence = sentence;
            return a;
        }

        private static int[][] rows(int[][] from) {
            return Arrays.stream(from).map(int[]::clone).toArray(int[][]::new);
        }

        int cost(int m, int f) {
            return cost(m, f, times[m][f]);
        }

        int cost(int m, int f, int done) {
            return minds[m][f] == 0 ? 0 : Math.max(1, minds[m][f] - wears * done);
        }

        int owedBy(int m) {
            return Arrays.stream(owes[m]).sum();
        }

        int doing(int m, int f) {
            int cost = cost(m, f);
            if (cost == 0) {
                return 1;
            }
            if (pride[m] < cost) {
                return 2;
            }
            pride[m] -= cost;
            credit[m] += cost;
            paid[m] += cost;
            times[m][f]++;
            return 0;
        }

        int buying(int m, int g) {
            if (stock[g] == 0) {
                return 1;
            }
            if (credit[m] < worth[g]) {
                return 2;
            }
            credit[m] -= worth[g];
            stock[g]--;
            bought[m][g]++;
            return 0;
        }

        int lending(int m, int k, int n) {
            if (m == k) {
                return 1;
            }
            if (credit[m] < n) {
                return 2;
            }
            credit[m] -= n;
            credit[k] += n;
            owes[k][m] += n;
            return 0;
        }

        int repaying(int m, int k, int n) {
            if (owes[m][k] < n) {
                return 1;
            }
            if (credit[m] < n) {
                return 2;
            }
            credit[m] -= n;
            credit[k] += n;
            owes[m][k] -= n;
            return 0;
        }

        void weekGoes() {
            for (int m = 0; m < men.size(); m++) {
                pride[m] = Math.min(told[m], pride[m] + mends);
            }
            week++;
        }

        /** Rings by size, each by the numbers of its men read as one number: the first of all. */
        List<Integer> ring() {
            for (int size = 2; size <= men.size(); size++) {
                List<Integer> found = walk(new ArrayList<>(), size);
                if (found != null) {
                    return found;
                }
            }
            return null;
        }

        private List<Integer> walk(List<Integer> ahead, int size) {
            if (ahead.size() == size) {
                boolean closed = owes[ahead.get(size - 1)][ahead.get(0)] > 0;
                return closed ? new ArrayList<>(ahead) : null;
            }
            for (int m = 0; m < men.size(); m++) {
                boolean may = ahead.isEmpty() || !ahead.contains(m) && m > ahead.get(0) && owes[ahead.get(ahead.size() - 1)][m] > 0;
                if (may) {
                    ahead.add(m);
                    List<Integer> found = walk(ahead, size);
                    ahead.remove(ahead.size() - 1);
                    if (found != null) {
                        return found;
                    }
                }
            }
            return null;
        }

        int striking() {
            List<Integer> ring = ring();
            if (ring == null) {
                return 0;
            }
            int least = 1000000;
            for (int i = 0; i < ring.size(); i++) {
                least = Math.min(least, owes[ring.get(i)][ring.get((i + 1) % ring.size())]);
            }
            for (int i = 0; i < ring.size(); i++) {
                owes[ring.get(i)][ring.get((i + 1) % ring.size())] -= least;
            }
            return least;
        }

        void drawn(int weeks, int seed) {
            int[] x = {seed};
            for (int w = 0; w < weeks; w++) {
                for (int m = 0; m < men.size(); m++) {
                    int what = draw(x, 4);
                    if (what == 1 && !forfeits.isEmpty()) {
                        doing(m, draw(x, forfeits.size()));
                    } else if (what == 2 && !goods.isEmpty()) {
                        buying(m, draw(x, goods.size()));
                    } else if (what == 3) {
                        repaying(m, draw(x, men.size()), 1);
                    }
                }
                weekGoes();
            }
        }

        private static int draw(int[] x, int n) {
            x[0] = x[0] * 1103515245 + 12345;
            return (x[0] >>> 8) % n;
        }
    }

    /** What is said of a MAN, of all that is so by then. */
    private interface IntPredicateOf {
        boolean of(All a, int m);
    }

    private String tape = "";
    private int fault;
    private All now = new All();
    private final Deque<All> past = new ArrayDeque<>();
    private final All[] images = new All[2];
    private List<Integer> latestRing = List.of();
    private int[] latestPlan = {};
    private int[] latestTax = {};
    private int latestTells = -1;
    private String latestList = "";
    private int[] latestTold = {};

    private boolean man(int m) {
        return m >= 0 && m < now.men.size();
    }

    private boolean forfeitIs(int f) {
        return f >= 0 && f < now.forfeits.size();
    }

    private boolean goodIs(int g) {
        return g >= 0 && g < now.goods.size();
    }

    int feed(int a, int b, int c, int d, int e) {
        if (tape.length() > 920) {
            return -1;
        }
        StringBuilder more = new StringBuilder(tape);
        for (int n : new int[] {a, b, c, d, e}) {
            more.append((char) (n >> 24 & 255)).append((char) (n >> 16 & 255)).append((char) (n >> 8 & 255)).append((char) (n & 255));
        }
        tape = more.toString();
        return tape.length();
    }

    boolean end(int n) {
        boolean can = n >= 0 && n <= tape.length();
        tape = can ? tape.substring(0, n) : tape;
        return can;
    }

    private String takeTape() {
        String text = tape;
        tape = "";
        return text;
    }

    int duchy() {
        try {
            fault = 0;
            Reader in = new Reader(takeTape(), 900);
            All next = new All();
            int lines = readDuchy(in, next);
            now = next;
            past.clear();
            return lines;
        } catch (Fault f) {
            fault = f.kind;
            return -1 - f.place;
        }
    }

    private static int readDuchy(Reader in, All a) {
        int lines = 0;
        boolean worn = false;
        boolean mended = false;
        int[] bites = new int[6];
        boolean[][] minded = new boolean[6][6];
        List<List<String>> told = List.of(a.men, a.forfeits, a.goods);
        while (!in.atEnd()) {
            int first = in.place();
            String word = in.take("man", "forfeit", "good", "minds", "owes", "wears", "mends");
            int sort = List.of("man", "forfeit", "good").indexOf(word);
            if (sort >= 0 && told.get(sort).size() == 6) {
                throw new Fault(4, first);
            }
            if (word.equals("wears") && worn || word.equals("mends") && mended) {
                throw new Fault(3, first);
            }
            switch (word) {
                case "man" -> {
                    String name = in.newName(told);
                    int pride = in.number(0, 99);
                    a.pride[a.men.size()] = pride;
                    a.told[a.men.size()] = pride;
                    a.men.add(name);
                }
                case "forfeit" -> {
                    String name = in.newName(told);
                    bites[a.forfeits.size()] = in.number(0, 20);
                    a.forfeits.add(name);
                }
                case "good" -> {
                    String name = in.newName(told);
                    a.worth[a.goods.size()] = in.number(1, 99);
                    a.stock[a.goods.size()] = in.number(0, 20);
                    a.goods.add(name);
                }
                case "minds" -> {
                    int m = in.name(a.men);
                    int second = in.place();
                    int f = in.name(a.forfeits);
                    if (minded[m][f]) {
                        throw new Fault(3, second);
                    }
                    minded[m][f] = true;
                    a.minds[m][f] = in.number(0, 20);
                }
                case "owes" -> {
                    int m = in.name(a.men);
                    int second = in.place();
                    int k = in.name(a.men);
                    if (m == k || a.owes[m][k] > 0) {
                        throw new Fault(3, second);
                    }
                    a.owes[m][k] = in.number(1, 99);
                }
                case "wears" -> {
                    worn = true;
                    a.wears = in.number(0, 9);
                }
                default -> {
                    mended = true;
                    a.mends = in.number(0, 9);
                }
            }
            in.take(";");
            lines++;
        }
        for (int m = 0; m < 6; m++) {
            for (int f = 0; f < 6; f++) {
                a.minds[m][f] = minded[m][f] ? a.minds[m][f] : bites[f];
            }
        }
        return lines;
    }

    int fault() {
        return fault;
    }

    int man(int m, int what) {
        if (!man(m) || what < 0 || what > 7) {
            throw new NoSuchElementException();
        }
        int bits = 0;
        int owed = 0;
        for (int i = 0; i < 6; i++) {
            bits += now.bought[m][i] > 0 ? 1 << i : 0;
            owed += now.owes[i][m];
        }
        return new int[] {now.pride[m], now.told[m], now.credit[m], now.owedBy(m), owed, bits, Arrays.stream(now.times[m]).sum(),
            now.paid[m]}[what];
    }

    int cost(int m, int f) {
        return man(m) && forfeitIs(f) ? now.cost(m, f) : -1;
    }

    int times(int m, int f) {
        return man(m) && forfeitIs(f) ? now.times[m][f] : -1;
    }

    int bought(int m, int g) {
        return man(m) && goodIs(g) ? now.bought[m][g] : -1;
    }

    int good(int g, int what) {
        return !goodIs(g) || what < 0 || what > 1 ? -1 : what == 0 ? now.worth[g] : now.stock[g];
    }

    int owes(int m, int k) {
        return man(m) && man(k) ? now.owes[m][k] : -1;
    }

    private static int all(int[][] rows) {
        return Arrays.stream(rows).mapToInt(row -> Arrays.stream(row).sum()).sum();
    }

    int now(int what) {
        if (what < 0 || what > 5) {
            return -1;
        }
        return new int[] {now.week, Arrays.stream(now.pride).sum(), Arrays.stream(now.credit).sum(), all(now.owes), all(now.times),
            all(now.bought)}[what];
    }

    private void keep(All before) {
        past.push(before);
        while (past.size() > 8) {
            past.removeLast();
        }
    }

    int forfeit(int m, int f) {
        if (!man(m) || !forfeitIs(f)) {
            return -1;
        }
        All before = now.copy();
        int pays = now.cost(m, f);
        int why = now.doing(m, f);
        if (why == 0) {
            keep(before);
        }
        return why == 0 ? pays : -1 - why;
    }

    private int kept(All before, int why) {
        if (why == 0) {
            keep(before);
        }
        return why;
    }

    int buy(int m, int g) {
        return man(m) && goodIs(g) ? kept(now.copy(), now.buying(m, g)) : -1;
    }

    int lend(int m, int k, int n) {
        return man(m) && man(k) && n >= 1 && n <= 99 ? kept(now.copy(), now.lending(m, k, n)) : -1;
    }

    int repay(int m, int k, int n) {
        return man(m) && man(k) && n >= 1 && n <= 99 ? kept(now.copy(), now.repaying(m, k, n)) : -1;
    }

    int strike() {
        All before = now.copy();
        int by = now.striking();
        if (by > 0) {
            keep(before);
        }
        return by > 0 ? by : -1;
    }

    int weeks(int n) {
        if (n < 1 || n > 60) {
            return -1;
        }
        All before = now.copy();
        int went = 0;
        while (went < n && now.week < 200) {
            now.weekGoes();
            went++;
        }
        if (went > 0) {
            keep(before);
        }
        return went;
    }

    int undo() {
        if (past.isEmpty()) {
            return -1;
        }
        IntPredicateOf sentence = now.sentence;
        now = past.pop();
        now.sentence = sentence;
        return past.size();
    }

    int ring() {
        List<Integer> ring = now.ring();
        latestRing = ring == null ? latestRing : ring;
        return ring == null ? -1 : ring.size();
    }

    int ringAt(int k) {
        return k >= 0 && k < latestRing.size() ? latestRing.get(k) : -1;
    }

    /** Sums are built FORFEIT by FORFEIT: of each sum the best plan so far. */
    int plan(int m, int w) {
        if (!man(m) || w < 0 || w > 200) {
            return -1;
        }
        int[][] best = new int[100][];
        best[0] = new int[0];
        for (int f = 0; f < now.forfeits.size(); f++) {
            int[][] next = new int[100][];
            for (int sum = 0; sum <= now.pride[m]; sum++) {
                int more = 0;
                for (int i = 0; i <= 20 && best[sum] != null && sum + more <= now.pride[m]; i++) {
                    int[] plan = Arrays.copyOf(best[sum], f + 1);
                    plan[f] = i;
                    next[sum + more] = better(next[sum + more], plan);
                    more += now.cost(m, f, now.times[m][f] + i);
                    if (now.minds[m][f] == 0) {
                        break;
                    }
                }
            }
            best = next;
        }
        for (int sum = w; sum <= now.pride[m]; sum++) {
            if (best[sum] != null) {
                latestPlan = best[sum];
                return sum;
            }
        }
        return -1;
    }

    private static int[] better(int[] a, int[] b) {
        if (a == null) {
            return b;
        }
        int timesA = Arrays.stream(a).sum();
        int timesB = Arrays.stream(b).sum();
        return timesA < timesB || timesA == timesB && Arrays.compare(a, b) <= 0 ? a : b;
    }

    int planned(int f) {
        return f >= 0 && f < latestPlan.length ? latestPlan[f] : -1;
    }

    int lasts(int m, int f) {
        return man(m) && forfeitIs(f) ? lasting(m, f)[0] : -1;
    }

    int worth(int m, int f) {
        return man(m) && forfeitIs(f) ? lasting(m, f)[1] : -1;
    }

    private int[] lasting(int m, int f) {
        All trial = now.copy();
        int times = 0;
        while (trial.doing(m, f) == 0) {
            times++;
        }
        return new int[] {times, trial.paid[m] - now.paid[m]};
    }

    int even() {
        int[] has = new int[now.men.size()];
        for (int m = 0; m < has.length; m++) {
            has[m] = man(m, 4) - man(m, 3);
        }
        return settle(has, 0);
    }

    private static int settle(int[] has, int m) {
        if (m == has.length) {
            return 0;
        }
        if (has[m] == 0) {
            return settle(has, m + 1);
        }
        int fewest = 99;
        for (int k = m + 1; k < has.length; k++) {
            if (has[k] != 0) {
                has[k] += has[m];
                fewest = Math.min(fewest, 1 + settle(has, m + 1));
                has[k] -= has[m];
            }
        }
        return fewest;
    }

    int fits() {
        String pairs = takeTape();
        if (pairs.length() % 2 != 0 || pairs.isEmpty() || pairs.length() > 20) {
            return -1;
        }
        for (int i = 0; i < pairs.length(); i += 2) {
            if (!forfeitIs(pairs.charAt(i))) {
                return -1;
            }
        }
        int men = 0;
        List<All> left = new ArrayList<>();
        List<Integer> who = new ArrayList<>();
        for (int m = 0; m < now.men.size(); m++) {
            All trial = now.copy();
            boolean fits = true;
            for (int i = 0; i < pairs.length() && fits; i += 2) {
                trial.pride[m] = 99;
                int before = trial.paid[m];
                fits = trial.doing(m, pairs.charAt(i)) == 0 && trial.paid[m] - before == pairs.charAt(i + 1);
            }
            if (fits) {
                men += 1 << m;
                left.add(trial);
                who.add(m);
            }
        }
        if (men > 0) {
            latestTells = telling(left, who);
        }
        return men;
    }

    private int telling(List<All> left, List<Integer> who) {
        int best = -1;
        int least = 99;
        for (int f = 0; f < now.forfeits.size(); f++) {
            int[] alike = new int[21];
            for (int i = 0; i < who.size(); i++) {
                alike[left.get(i).cost(who.get(i), f)]++;
            }
            int most = Arrays.stream(alike).max().getAsInt();
            if (most < least) {
                least = most;
                best = f;
            }
        }
        return best;
    }

    int tells() {
        return latestTells;
    }

    int share(int n, int set, int m) {
        if (n < 0 || n > 999 || !man(m) || set < 0 || set >= 1 << now.men.size() || (set & 1 << m) == 0) {
            return -1;
        }
        int all = 0;
        for (int i = 0; i < now.men.size(); i++) {
            all += (set & 1 << i) != 0 ? now.pride[i] : 0;
        }
        if (all == 0) {
            return 0;
        }
        int sum = all;
        List<Integer> order = new ArrayList<>();
        int left = n;
        for (int i = 0; i < now.men.size(); i++) {
            if ((set & 1 << i) != 0) {
                order.add(i);
                left -= n * now.pride[i] / sum;
            }
        }
        order.sort((a, b) -> n * now.pride[b] % sum - n * now.pride[a] % sum);
        return n * now.pride[m] / sum + (order.indexOf(m) < left ? 1 : 0);
    }

    /** Each greatest COST in its turn, each sum in its turn; MAN by MAN the first FORFEIT by which the rest can be paid. */
    int tax(int t) {
        for (int greatest = 0; t >= 0 && t <= 200 && greatest <= 20; greatest++) {
            for (int sum = t; sum <= 120; sum++) {
                int[] tax = new int[now.men.size()];
                if (taxed(tax, 0, sum, greatest)) {
                    latestTax = tax;
                    return greatest;
                }
            }
        }
        return -1;
    }

    private boolean taxed(int[] tax, int m, int left, int greatest) {
        if (m == tax.length) {
            return left == 0;
        }
        if (left > greatest * (tax.length - m)) {
            return false;
        }
        for (int f = 0; f < now.forfeits.size(); f++) {
            int cost = now.cost(m, f);
            tax[m] = f;
            if (cost > 0 && cost <= now.pride[m] && cost <= greatest && cost <= left && taxed(tax, m + 1, left - cost, greatest)) {
                return true;
            }
        }
        tax[m] = -1;
        return taxed(tax, m + 1, left, greatest);
    }

    int taxOf(int m) {
        return m >= 0 && m < latestTax.length ? latestTax[m] : -1;
    }

    int proudest() {
        int most = Arrays.stream(now.pride).max().getAsInt();
        for (int m = 0; m < now.men.size(); m++) {
            if (now.pride[m] == most) {
                return m;
            }
        }
        return -1;
    }

    int list(int m) {
        if (!man(m)) {
            return -1;
        }
        latestList = now.men.get(m) + " would not";
        for (int cost = now.pride[m]; cost > 0; cost--) {
            for (int f = now.forfeits.size() - 1; f >= 0; f--) {
                if (now.cost(m, f) == cost) {
                    latestList = now.men.get(m) + " would " + now.forfeits.get(f) + " for " + cost;
                }
            }
        }
        return latestList.length();
    }

    int byteAt(int i) {
        return i >= 0 && i < latestList.length() ? latestList.charAt(i) : -1;
    }

    int drawn(int n, int seed) {
        if (n < 1 || n > 60 || now.men.isEmpty()) {
            return -1;
        }
        int go = Math.min(n, 200 - now.week);
        if (go > 0) {
            keep(now.copy());
            now.drawn(go, seed);
        }
        return go;
    }

    int odds(int m, int n, int seed) {
        if (!man(m) || n < 1 || n > 30) {
            return -1;
        }
        int lucky = 0;
        for (int i = 0; i < n; i++) {
            All trial = now.copy();
            trial.drawn(Math.min(20, 200 - trial.week), seed + i);
            lucky += Arrays.stream(trial.bought[m]).sum() > 0 ? 1 : 0;
        }
        return lucky;
    }

    private record Line(String does, int m, int k, int n) {
        /** 0, or why it is WRONG. */
        int live(All a) {
            switch (does) {
                case "does":
                    return a.doing(m, k);
                case "buys":
                    return more(10, a.buying(m, k));
                case "lends":
                    return more(20, a.lending(m, k, n));
                case "repays":
                    return more(30, a.repaying(m, k, n));
                case "strike":
                    return a.striking() > 0 ? 0 : 41;
                default:
                    if (a.week + n > 200) {
                        return 51;
                    }
                    for (int i = 0; i < n; i++) {
                        a.weekGoes();
                    }
                    return 0;
            }
        }

        private static int more(int ten, int why) {
            return why == 0 ? 0 : ten + why;
        }
    }

    int book(int lives) {
        if (lives != 0 && lives != 1) {
            return -1000;
        }
        List<Line> lines;
        try {
            fault = 0;
            lines = readBook(new Reader(takeTape(), 400));
        } catch (Fault f) {
            fault = f.kind;
            return -2 - f.place;
        }
        All trial = now.copy();
        int why = 0;
        int right = 0;
        while (right < lines.size()) {
            why = lines.get(right).live(trial);
            if (why != 0) {
                break;
            }
            right++;
        }
        latestTold = new int[] {why, right, trial.week, Arrays.stream(trial.credit).sum()};
        if (lives == 1) {
            keep(now);
            now = trial;
        }
        return why == 0 ? -1 : right;
    }

    private List<Line> readBook(Reader in) {
        List<Line> lines = new ArrayList<>();
        while (!in.atEnd()) {
            int first = in.place();
            String does = "";
            int m = 0;
            int k = 0;
            int n = 0;
            if (in.sees("strike", "week")) {
                does = in.take("strike", "week");
            } else {
                m = in.name(now.men);
            }
            if (lines.size() == 40) {
                throw new Fault(4, first);
            }
            if (does.isEmpty()) {
                does = in.take("does", "buys", "lends", "repays");
                k = in.name(does.equals("does") ? now.forfeits : does.equals("buys") ? now.goods : now.men);
            }
            if (does.equals("lends") || does.equals("repays")) {
                n = in.number(1, 99);
            } else if (does.equals("week")) {
                n = in.number(1, 60);
            }
            in.take(";");
            lines.add(new Line(does, m, k, n));
        }
        return lines;
    }

    int told(int what) {
        return what >= 0 && what < latestTold.length ? latestTold[what] : -1;
    }

    private int ones;

    int sentence() {
        try {
            fault = 0;
            ones = 0;
            Reader in = new Reader(takeTape(), 200);
            IntPredicateOf whole = cond(in, 0);
            if (!in.atEnd()) {
                throw new Fault(1, in.place());
            }
            now.sentence = whole;
            return ones;
        } catch (Fault f) {
            fault = f.kind;
            return -1 - f.place;
        }
    }

    private IntPredicateOf cond(Reader in, int around) {
        IntPredicateOf left = all(in, around);
        while (in.sees("or")) {
            in.take("or");
            IntPredicateOf ahead = left;
            IntPredicateOf right = all(in, around);
            left = (a, m) -> ahead.of(a, m) || right.of(a, m);
        }
        return left;
    }

    private IntPredicateOf all(Reader in, int around) {
        IntPredicateOf left = one(in, around);
        while (in.sees("and")) {
            in.take("and");
            IntPredicateOf ahead = left;
            IntPredicateOf right = one(in, around);
            left = (a, m) -> ahead.of(a, m) && right.of(a, m);
        }
        return left;
    }

    private IntPredicateOf one(Reader in, int around) {
        int place = in.place();
        String word = in.take("not", "(", "proud", "owing", "has", "did", "pride", "credit", "debts", "number");
        ones++;
        if (ones == 21 || around == 8) {
            throw new Fault(4, place);
        }
        switch (word) {
            case "not": {
                IntPredicateOf inner = one(in, around + 1);
                return (a, m) -> !inner.of(a, m);
            }
            case "(": {
                IntPredicateOf inner = cond(in, around + 1);
                in.take(")");
                return inner;
            }
            case "proud":
                return (a, m) -> a.pride[m] == a.told[m];
            case "owing": {
                int k = in.name(now.men);
                return (a, m) -> a.owes[m][k] > 0;
            }
            case "has": {
                int g = in.name(now.goods);
                return (a, m) -> a.bought[m][g] > 0;
            }
            case "did": {
                int f = in.name(now.forfeits);
                return (a, m) -> a.times[m][f] > 0;
            }
            default:
                return compared(word, in.take("<", "=", ">"), in.number(0, 999));
        }
    }

    private static IntPredicateOf compared(String word, String sign, int n) {
        IntPredicate so = sign.equals("<") ? x -> x < n : sign.equals(">") ? x -> x > n : x -> x == n;
        switch (word) {
            case "pride":
                return (a, m) -> so.test(a.pride[m]);
            case "credit":
                return (a, m) -> so.test(a.credit[m]);
            case "debts":
                return (a, m) -> so.test(a.owedBy(m));
            default:
                return (a, m) -> so.test(m);
        }
    }

    int said(int k) {
        if (now.sentence == null) {
            return -1;
        }
        List<Integer> men = new ArrayList<>();
        for (int m = 0; m < now.men.size(); m++) {
            if (now.sentence.of(now, m)) {
                men.add(m);
            }
        }
        return k == -1 ? men.size() : k >= 0 && k < men.size() ? men.get(k) : -1;
    }

    boolean image(int k) {
        if (k != 0 && k != 1) {
            return false;
        }
        images[k] = now.copy();
        return true;
    }

    boolean restore(int k) {
        if (k != 0 && k != 1 || images[k] == null) {
            return false;
        }
        now = images[k].copy();
        past.clear();
        return true;
    }

    int count(int what) {
        if (what < 0 || what > 5) {
            return -1;
        }
        return new int[] {now.men.size(), now.forfeits.size(), now.goods.size(), now.wears, now.mends, tape.length()}[what];
    }
}
