import java.util.Random;

/** Promises 13 and 20 to 34 on random DUCHIES, each against a search through all that could be. */
public final class BruteTest {
    private static final Checks c = new Checks();
    private static final Random random = new Random(465);

    private static int men;
    private static int forfeits;
    private static int wears;
    private static int[][] minds;
    private static int[][] debts;
    private static int[][] done;
    private static int[] pride;

    public static void main(String[] args) {
        for (int i = 0; i < 400; i++) {
            MerryDuchy d = make(i);
            live(d);
            String when = "DUCHY " + i;
            askRing(d, when);
            c.due(when + " even", d.even(), settle(balances(), 0));
            for (int m = 0; m < men; m++) {
                askPlan(d, when, m);
                askLasts(d, when, m);
            }
            for (int k = 0; k < 20; k++) {
                askFits(d, when);
            }
            askShare(d, when);
            askTax(d, when);
        }
        c.end("BruteTest");
    }

    private static int upTo(int n) {
        return random.nextInt(n + 1);
    }

    private static MerryDuchy make(int i) {
        men = 1 + upTo(5);
        forfeits = upTo(4);
        wears = upTo(3);
        minds = new int[men][forfeits];
        debts = new int[men][men];
        done = new int[men][forfeits];
        pride = new int[men];
        int greatest = 1 + upTo(i % 2 == 0 ? 4 : 19);
        StringBuilder text = new StringBuilder("wears " + wears + ";mends 0;");
        for (int f = 0; f < forfeits; f++) {
            text.append("forfeit f").append((char) ('a' + f)).append(" 0;");
        }
        for (int m = 0; m < men; m++) {
            pride[m] = upTo(24);
            text.append("man m").append((char) ('a' + m)).append(' ').append(pride[m]).append(';');
            for (int f = 0; f < forfeits; f++) {
                minds[m][f] = upTo(greatest);
                text.append("minds m").append((char) ('a' + m)).append(" f").append((char) ('a' + f));
                text.append(' ').append(minds[m][f]).append(';');
            }
        }
        int often = 1 + upTo(5);
        for (int m = 0; m < men; m++) {
            for (int k = 0; k < men; k++) {
                if (m != k && upTo(often) == 0 && text.length() < 880) {
                    debts[m][k] = 1 + upTo(5);
                    text.append("owes m").append((char) ('a' + m)).append(" m").append((char) ('a' + k));
                    text.append(' ').append(debts[m][k]).append(';');
                }
            }
        }
        return Checks.of(text.toString());
    }

    private static int cost(int m, int f, int more) {
        return minds[m][f] == 0 ? 0 : Math.max(1, minds[m][f] - wears * (done[m][f] + more));
    }

    private static void live(MerryDuchy d) {
        for (int i = upTo(6); i > 0 && forfeits > 0; i--) {
            int m = upTo(men - 1);
            int f = upTo(forfeits - 1);
            int cost = cost(m, f, 0);
            c.due("forfeit", d.forfeit(m, f), cost == 0 ? -2 : cost > pride[m] ? -3 : cost);
            if (cost > 0 && cost <= pride[m]) {
                pride[m] -= cost;
                done[m][f]++;
            }
        }
    }

    private static int[] best;

    private static void askRing(MerryDuchy d, String when) {
        best = null;
        grow(new int[men], 0);
        c.due(when + " ring", d.ring(), best == null ? -1 : best.length);
        for (int k = 0; best != null && k < best.length; k++) {
            c.due(when + " ringAt", d.ringAt(k), best[k]);
        }
    }

    /** All walks of unlike men, in no clever order: the last first. */
    private static void grow(int[] walk, int size) {
        if (size > 1 && debts[walk[size - 1]][walk[0]] > 0) {
            boolean leastFirst = true;
            for (int i = 1; i < size; i++) {
                leastFirst &= walk[i] > walk[0];
            }
            if (leastFirst && (best == null || size < best.length || size == best.length && ahead(walk, best))) {
                best = java.util.Arrays.copyOf(walk, size);
            }
        }
        for (int m = men - 1; m >= 0 && size < men; m--) {
            boolean fresh = true;
            for (int i = 0; i < size; i++) {
                fresh &= walk[i] != m;
            }
            if (fresh && (size == 0 || debts[walk[size - 1]][m] > 0)) {
                walk[size] = m;
                grow(walk, size + 1);
            }
        }
    }

    private static boolean ahead(int[] a, int[] b) {
        for (int i = 0; i < b.length; i++) {
            if (a[i] != b[i]) {
                return a[i] < b[i];
            }
        }
        return false;
    }

    private static int[] balances() {
        int[] all = new int[men];
        for (int m = 0; m < men; m++) {
            for (int k = 0; k < men; k++) {
                all[m] -= debts[m][k];
                all[k] += debts[m][k];
            }
        }
        return all;
    }

    /** The first who is not even pays all or gets all from some other one. */
    private static int settle(int[] all, int from) {
        while (from < all.length && all[from] == 0) {
            from++;
        }
        if (from == all.length) {
            return 0;
        }
        int fewest = 99;
        for (int k = from + 1; k < all.length; k++) {
            if (all[k] > 0 != all[from] > 0 && all[k] != 0) {
                all[k] += all[from];
                fewest = Math.min(fewest, 1 + settle(all, from + 1));
                all[k] -= all[from];
            }
        }
        return fewest;
    }

    private static int bestPaid;
    private static int bestTimes;
    private static int[] bestPlan;

    private static void askPlan(MerryDuchy d, String when, int m) {
        int w = upTo(26);
        bestPlan = null;
        plans(m, w, 0, 0, 0, new int[forfeits]);
        c.due(when + " plan(" + m + ", " + w + ")", d.plan(m, w), bestPlan == null ? -1 : bestPaid);
        for (int f = 0; bestPlan != null && f < forfeits; f++) {
            c.due(when + " planned", d.planned(f), bestPlan[f]);
        }
    }

    private static void plans(int m, int w, int f, int paid, int times, int[] plan) {
        if (paid > pride[m]) {
            return;
        }
        if (f == forfeits) {
            if (paid >= w && (bestPlan == null || paid < bestPaid || paid == bestPaid && times < bestTimes)) {
                bestPlan = plan.clone();
                bestPaid = paid;
                bestTimes = times;
            }
            return;
        }
        int more = 0;
        for (int i = 0; i <= 20 && (i == 0 || cost(m, f, i - 1) > 0); i++) {
            more += i == 0 ? 0 : cost(m, f, i - 1);
            plan[f] = i;
            plans(m, w, f + 1, paid + more, times + i, plan);
        }
    }

    private static void askLasts(MerryDuchy d, String when, int m) {
        for (int f = 0; f < forfeits; f++) {
            int lasts = 0;
            int worth = 0;
            while (cost(m, f, lasts) > 0 && worth + cost(m, f, lasts) <= pride[m]) {
                worth += cost(m, f, lasts);
                lasts++;
            }
            c.due(when + " lasts", d.lasts(m, f), lasts);
            c.due(when + " worth", d.worth(m, f), worth);
        }
    }

    private static void askFits(MerryDuchy d, String when) {
        if (forfeits == 0) {
            return;
        }
        int size = 1 + upTo(9);
        int like = upTo(men - 1);
        int[] bytes = new int[2 * size];
        int[] times = new int[forfeits];
        for (int i = 0; i < size; i++) {
            bytes[2 * i] = upTo(forfeits - 1);
            bytes[2 * i + 1] = cost(like, bytes[2 * i], times[bytes[2 * i]]++);
        }
        int set = 0;
        for (int m = 0; m < men; m++) {
            int[] so = new int[forfeits];
            boolean fits = true;
            for (int i = 0; i < size; i++) {
                int cost = cost(m, bytes[2 * i], so[bytes[2 * i]]++);
                fits &= cost > 0 && cost == bytes[2 * i + 1];
            }
            set |= fits ? 1 << m : 0;
        }
        int before = d.tells();
        Checks.tape(d, bytes);
        c.due(when + " fits", d.fits(), set);
        c.due(when + " tells", d.tells(), set == 0 ? before : telling(set, times));
    }

    private static int telling(int set, int[] times) {
        int telling = -1;
        int least = 99;
        for (int f = 0; f < forfeits; f++) {
            int[] of = new int[21];
            int most = 0;
            for (int m = 0; m < men; m++) {
                if ((set >> m & 1) == 1) {
                    most = Math.max(most, ++of[cost(m, f, times[f])]);
                }
            }
            if (most < least) {
                least = most;
                telling = f;
            }
        }
        return telling;
    }

    private static void askShare(MerryDuchy d, String when) {
        int set = upTo((1 << men) - 1);
        int n = upTo(999);
        int all = 0;
        for (int m = 0; m < men; m++) {
            all += (set >> m & 1) * pride[m];
        }
        int[] share = new int[men];
        boolean[] given = new boolean[men];
        int left = n;
        for (int m = 0; m < men && all > 0; m++) {
            share[m] = (set >> m & 1) * (n * pride[m] / all);
            left -= share[m];
        }
        while (all > 0 && left > 0) {
            int next = -1;
            for (int m = 0; m < men; m++) {
                if ((set >> m & 1) == 1 && !given[m] && (next < 0 || n * pride[m] % all > n * pride[next] % all)) {
                    next = m;
                }
            }
            given[next] = true;
            share[next]++;
            left--;
        }
        for (int m = 0; m < men; m++) {
            c.due(when + " share", d.share(n, set, m), (set >> m & 1) == 1 ? share[m] : -1);
        }
    }

    private static int leastGreatest;
    private static int leastInAll;
    private static int[] bestTax;

    private static void askTax(MerryDuchy d, String when) {
        int t = upTo(30);
        bestTax = null;
        taxes(t, 0, 0, 0, new int[men]);
        c.due(when + " tax(" + t + ")", d.tax(t), bestTax == null ? -1 : leastGreatest);
        for (int m = 0; bestTax != null && m < men; m++) {
            c.due(when + " taxOf", d.taxOf(m), bestTax[m]);
        }
    }

    /** MAN by MAN the least FORFEIT comes first and none last, so the first of like ones is met first. */
    private static void taxes(int t, int m, int greatest, int all, int[] tax) {
        if (m == men) {
            if (all >= t && (bestTax == null || greatest < leastGreatest || greatest == leastGreatest && all < leastInAll)) {
                bestTax = tax.clone();
                leastGreatest = greatest;
                leastInAll = all;
            }
            return;
        }
        for (int f = 0; f < forfeits; f++) {
            int cost = cost(m, f, 0);
            if (cost > 0 && cost <= pride[m]) {
                tax[m] = f;
                taxes(t, m + 1, Math.max(greatest, cost), all + cost, tax);
            }
        }
        tax[m] = -1;
        taxes(t, m + 1, greatest, all, tax);
    }
}
