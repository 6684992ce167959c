import java.util.Arrays;
import java.util.NoSuchElementException;

/** A duchy whose coin is forfeits; the document's promises say what each call answers. */
public final class MerryDuchy {
    public static final int NONE = -1;

    private static final int MOST = 6;
    private static final int PAIRS = MOST * MOST;
    private static final int ALL_WEEKS = 200;
    private static final int TAPE_BYTES = 940;
    private static final int FEED_BYTES = 20;
    private static final int DUCHY_BYTES = 900;
    private static final int BOOK_BYTES = 400;
    private static final int SENTENCE_BYTES = 200;
    private static final int LIST_BYTES = 40;
    private static final int IMAGES = 2;
    private static final int MOST_PRIDE = 99;
    private static final int MOST_BITE = 20;
    private static final int MOST_DEBT = 99;
    private static final int MOST_WEEKS = 60;
    private static final int MOST_ASKED = 200;
    private static final int ODDS_WEEKS = 20;

    private static final int CANT_COME = 1;
    private static final int NOT_AS_TOLD = 2;
    private static final int WRONG_NAME = 3;
    private static final int TOO_MANY = 4;

    private final Tokens tokens = new Tokens();
    private final byte[] tape = tokens.bytes;
    private int tapeLength;
    private int latestFault;
    private final Acts acts = new Acts();
    private final Duchy here = acts.duchy;
    private final Duchy draft = new Duchy();
    private final Duchy[] images = new Duchy[IMAGES];
    private final boolean[] imaged = new boolean[IMAGES];
    private final State trial = new State();
    private final Past past = new Past();
    private final Ring latestRing = new Ring();
    private final Plan latestPlan = new Plan();
    private final Tax latestTax = new Tax();
    private final Fits latestFits = new Fits();
    private final Book latestBook = new Book();
    private final byte[] latestList = new byte[LIST_BYTES];
    private int listLength;

    public MerryDuchy() {
        for (int i = 0; i < IMAGES; i++) {
            images[i] = new Duchy();
        }
    }

    public int feed(int a, int b, int c, int d, int e) {
        if (tapeLength + FEED_BYTES > TAPE_BYTES) {
            return NONE;
        }
        feedNumber(a);
        feedNumber(b);
        feedNumber(c);
        feedNumber(d);
        feedNumber(e);
        return tapeLength;
    }

    private void feedNumber(int number) {
        for (int shift = 24; shift >= 0 && tapeLength < TAPE_BYTES; shift -= 8) {
            tape[tapeLength] = (byte) (number >>> shift);
            tapeLength++;
        }
    }

    public boolean end(int n) {
        if (n < 0 || n > tapeLength) {
            return false;
        }
        tapeLength = n;
        return true;
    }

    public int duchy() {
        startTokens(DUCHY_BYTES);
        int lines = draft.readLines(tokens);
        latestFault = tokens.fault;
        if (tokens.fault != 0) {
            return -1 - tokens.place;
        }
        here.takeAll(draft);
        past.forget();
        return lines;
    }

    /** The text stays in the tape's row while it is read, though the tape is empty by then. */
    private void startTokens(int mostBytes) {
        int length = tapeLength;
        tapeLength = 0;
        tokens.start(length, mostBytes);
    }

    public int fault() {
        return latestFault;
    }

    public int man(int m, int what) throws NoSuchElementException {
        if (!here.has(Duchy.MEN, m)) {
            throw new NoSuchElementException();
        }
        State state = here.state;
        switch (what) {
            case 0:
                return state.pride[m];
            case 1:
                return here.told[m];
            case 2:
                return state.credit[m];
            case 3:
                return state.allOwedBy(m);
            case 4:
                return sum(state.debts, m, MOST, MOST);
            case 5:
                return goodsOf(m);
            case 6:
                return sum(state.times, m * MOST, 1, MOST);
            case 7:
                return state.paid[m];
            default:
                throw new NoSuchElementException();
        }
    }

    private int goodsOf(int m) {
        int bits = 0;
        for (int g = 0; g < here.goods(); g++) {
            if (here.state.bought[m * MOST + g] > 0) {
                bits |= 1 << g;
            }
        }
        return bits;
    }

    public int cost(int m, int f) {
        return here.has(Duchy.MEN, m) && here.has(Duchy.FORFEITS, f) ? here.costNow(here.state, m, f) : NONE;
    }

    public int times(int m, int f) {
        return here.has(Duchy.MEN, m) && here.has(Duchy.FORFEITS, f) ? here.state.times[m * MOST + f] : NONE;
    }

    public int bought(int m, int g) {
        return here.has(Duchy.MEN, m) && here.has(Duchy.GOODS, g) ? here.state.bought[m * MOST + g] : NONE;
    }

    public int good(int g, int what) {
        if (!here.has(Duchy.GOODS, g)) {
            return NONE;
        }
        switch (what) {
            case 0:
                return here.worths[g];
            case 1:
                return here.state.stock[g];
            default:
                return NONE;
        }
    }

    public int owes(int m, int k) {
        return here.has(Duchy.MEN, m) && here.has(Duchy.MEN, k) ? here.state.debts[m * MOST + k] : NONE;
    }

    public int now(int what) {
        State state = here.state;
        switch (what) {
            case 0:
                return state.week;
            case 1:
                return sum(state.pride, 0, 1, MOST);
            case 2:
                return state.allCredit();
            case 3:
                return sum(state.debts, 0, 1, PAIRS);
            case 4:
                return sum(state.times, 0, 1, PAIRS);
            case 5:
                return sum(state.bought, 0, 1, PAIRS);
            default:
                return NONE;
        }
    }

    public int forfeit(int m, int f) {
        if (!here.has(Duchy.MEN, m) || !here.has(Duchy.FORFEITS, f)) {
            return NONE;
        }
        int why = acts.whyNot(here.state, Acts.DO, m, f, 0);
        return why == 0 ? done(Acts.DO, m, f, 0) : -1 - why;
    }

    public int buy(int m, int g) {
        if (!here.has(Duchy.MEN, m) || !here.has(Duchy.GOODS, g)) {
            return NONE;
        }
        return tried(Acts.BUY, m, g, 0);
    }

    public int lend(int m, int k, int n) {
        return triedBetween(Acts.LEND, m, k, n);
    }

    public int repay(int m, int k, int n) {
        return triedBetween(Acts.REPAY, m, k, n);
    }

    private int triedBetween(int act, int m, int k, int n) {
        if (!here.has(Duchy.MEN, m) || !here.has(Duchy.MEN, k) || n < 1 || n > MOST_DEBT) {
            return NONE;
        }
        return tried(act, m, k, n);
    }

    public int strike() {
        return acts.whyNot(here.state, Acts.STRIKE, 0, 0, 0) == 0 ? done(Acts.STRIKE, 0, 0, 0) : NONE;
    }

    private int tried(int act, int m, int k, int n) {
        int why = acts.whyNot(here.state, act, m, k, n);
        if (why == 0) {
            done(act, m, k, n);
        }
        return why;
    }

    private int done(int act, int m, int k, int n) {
        past.keep(here.state);
        return acts.perform(here.state, act, m, k, n);
    }

    public int weeks(int n) {
        if (n < 1 || n > MOST_WEEKS) {
            return NONE;
        }
        int go = weeksToGo(here.state, n);
        if (go > 0) {
            done(Acts.PASS, 0, 0, go);
        }
        return go;
    }

    private static int weeksToGo(State state, int n) {
        return Math.min(n, ALL_WEEKS - state.week);
    }

    public int undo() {
        return past.giveBack(here.state);
    }

    public int ring() {
        if (!acts.ring.find(here.state, here.men())) {
            return NONE;
        }
        latestRing.takeAll(acts.ring);
        return latestRing.size;
    }

    public int ringAt(int k) {
        return k >= 0 && k < latestRing.size ? latestRing.men[k] : NONE;
    }

    public int plan(int m, int w) {
        if (!here.has(Duchy.MEN, m) || w < 0 || w > MOST_ASKED) {
            return NONE;
        }
        return latestPlan.find(here, m, w);
    }

    public int planned(int f) {
        return f >= 0 && f < latestPlan.forfeits ? latestPlan.times[f] : NONE;
    }

    public int lasts(int m, int f) {
        return here.has(Duchy.MEN, m) && here.has(Duchy.FORFEITS, f) ? acts.timesLeft(m, f) : NONE;
    }

    public int worth(int m, int f) {
        if (!here.has(Duchy.MEN, m) || !here.has(Duchy.FORFEITS, f)) {
            return NONE;
        }
        int paid = 0;
        int begun = here.state.times[m * MOST + f];
        for (int i = 0, left = acts.timesLeft(m, f); i < left; i++) {
            paid += here.costAfter(m, f, begun + i);
        }
        return paid;
    }

    public int even() {
        return acts.fewestPayments();
    }

    public int fits() {
        int length = tapeLength;
        tapeLength = 0;
        return latestFits.find(here, tape, length);
    }

    public int tells() {
        return latestFits.telling;
    }

    public int share(int n, int set, int m) {
        if (n < 0 || n > 999 || !here.has(Duchy.MEN, m) || set >>> here.men() != 0 || (set >>> m & 1) == 0) {
            return NONE;
        }
        int all = 0;
        for (int i = 0; i < here.men(); i++) {
            all += prideWithin(set, i);
        }
        if (all <= 0) {
            return 0;
        }
        int left = n;
        int ahead = 0;
        int rest = n * prideWithin(set, m) % all;
        for (int i = 0; i < here.men(); i++) {
            int whole = n * prideWithin(set, i);
            left -= whole / all;
            if ((set >>> i & 1) == 1 && (whole % all > rest || whole % all == rest && i < m)) {
                ahead++;
            }
        }
        return n * prideWithin(set, m) / all + (ahead < left ? 1 : 0);
    }

    private int prideWithin(int set, int m) {
        return (set >>> m & 1) == 1 ? here.state.pride[m] : 0;
    }

    public int tax(int t) {
        return t < 0 || t > MOST_ASKED ? NONE : latestTax.find(here, t);
    }

    public int taxOf(int m) {
        return m >= 0 && m < latestTax.men ? latestTax.chosen[m] : NONE;
    }

    public int proudest() {
        int proudest = NONE;
        for (int m = 0; m < here.men(); m++) {
            if (proudest == NONE || here.state.pride[m] > here.state.pride[proudest]) {
                proudest = m;
            }
        }
        return proudest;
    }

    public int list(int m) {
        if (!here.has(Duchy.MEN, m)) {
            return NONE;
        }
        listLength = 0;
        listName(Duchy.MEN, m);
        int f = acts.mildestForfeit(m);
        if (f == NONE) {
            listText(" would not");
        } else {
            listText(" would ");
            listName(Duchy.FORFEITS, f);
            listText(" for ");
            listNumber(here.costNow(here.state, m, f));
        }
        return listLength;
    }

    private void listName(int sort, int i) {
        long name = here.names[sort * MOST + i];
        for (int shift = 48; shift >= 0; shift -= 8) {
            int letter = (int) (name >>> shift) & 255;
            if (letter != 0) {
                listByte(letter);
            }
        }
    }

    private void listText(String text) {
        for (int i = 0; i < text.length(); i++) {
            listByte(text.charAt(i));
        }
    }

    private void listNumber(int number) {
        if (number >= 10) {
            listByte('0' + number / 10);
        }
        listByte('0' + number % 10);
    }

    private void listByte(int letter) {
        if (listLength < LIST_BYTES) {
            latestList[listLength] = (byte) letter;
            listLength++;
        }
    }

    public int byteAt(int i) {
        return i >= 0 && i < listLength ? latestList[i] & 255 : NONE;
    }

    public int drawn(int n, int seed) {
        if (n < 1 || n > MOST_WEEKS || here.men() == 0) {
            return NONE;
        }
        int go = weeksToGo(here.state, n);
        if (go > 0) {
            past.keep(here.state);
            acts.drawWeeks(here.state, go, seed);
        }
        return go;
    }

    public int odds(int m, int n, int seed) {
        if (!here.has(Duchy.MEN, m) || n < 1 || n > 30) {
            return NONE;
        }
        int go = weeksToGo(here.state, ODDS_WEEKS);
        int lucky = 0;
        for (int i = 0; i < n; i++) {
            trial.takeAll(here.state);
            acts.drawWeeks(trial, go, seed + i);
            if (sum(trial.bought, m * MOST, 1, MOST) > 0) {
                lucky++;
            }
        }
        return lucky;
    }

    public int book(int lives) {
        if (lives != 0 && lives != 1) {
            return -1000;
        }
        startTokens(BOOK_BYTES);
        boolean read = latestBook.readLines(tokens, here);
        latestFault = tokens.fault;
        if (!read) {
            return -2 - tokens.place;
        }
        if (lives == 1) {
            past.keep(here.state);
            return latestBook.live(acts, here.state);
        }
        trial.takeAll(here.state);
        return latestBook.live(acts, trial);
    }

    public int told(int what) {
        return what >= 0 && what < latestBook.toldRows ? latestBook.told[what] : NONE;
    }

    public int sentence() {
        startTokens(SENTENCE_BYTES);
        boolean read = draft.sentence.readWhole(tokens, here);
        latestFault = tokens.fault;
        if (!read) {
            return -1 - tokens.place;
        }
        here.sentence.takeAll(draft.sentence);
        return here.sentence.ones;
    }

    public int said(int k) {
        if (here.sentence.length == 0) {
            return NONE;
        }
        int men = here.sentence.menOf(here);
        if (k == NONE) {
            return Integer.bitCount(men);
        }
        int left = k;
        for (int m = 0; m < MOST && left >= 0; m++) {
            if ((men >>> m & 1) == 1) {
                if (left == 0) {
                    return m;
                }
                left--;
            }
        }
        return NONE;
    }

    public boolean image(int k) {
        if (k < 0 || k >= IMAGES) {
            return false;
        }
        images[k].takeAll(here);
        imaged[k] = true;
        return true;
    }

    public boolean restore(int k) {
        if (k < 0 || k >= IMAGES || !imaged[k]) {
            return false;
        }
        here.takeAll(images[k]);
        past.forget();
        return true;
    }

    public int count(int what) {
        switch (what) {
            case 0:
                return here.men();
            case 1:
                return here.forfeits();
            case 2:
                return here.goods();
            case 3:
                return here.wears;
            case 4:
                return here.mends;
            case 5:
                return tapeLength;
            default:
                return NONE;
        }
    }

    private static int sum(int[] row, int first, int step, int count) {
        int all = 0;
        for (int i = 0, at = first; i < count && at >= 0 && at < row.length; i++, at += step) {
            all += row[at];
        }
        return all;
    }

    private static void copyRow(int[] from, int[] to) {
        System.arraycopy(from, 0, to, 0, Math.min(from.length, to.length));
    }

    /** The TOKENS of the tape one by one, and the FAULT at which reading stopped. */
    private static final class Tokens {
        static final int END = 0;
        static final int WORD = 1;
        static final int NUMBER = 2;
        static final int SIGN = 3;
        static final int NO_TOKEN = 4;

        static final int KEY_MAN = 0;
        static final int KEY_FORFEIT = 1;
        static final int KEY_MINDS = 2;
        static final int KEY_GOOD = 3;
        static final int KEY_OWES = 4;
        static final int KEY_WEARS = 5;
        static final int KEY_MENDS = 6;
        static final int KEY_DOES = 7;
        static final int KEY_BUYS = 8;
        static final int KEY_LENDS = 9;
        static final int KEY_REPAYS = 10;
        static final int KEY_STRIKE = 11;
        static final int KEY_WEEK = 12;
        static final int KEY_OR = 13;
        static final int KEY_AND = 14;
        static final int KEY_NOT = 15;
        static final int KEY_PROUD = 16;
        static final int KEY_OWING = 17;
        static final int KEY_HAS = 18;
        static final int KEY_DID = 19;
        static final int KEY_PRIDE = 20;
        static final int KEY_CREDIT = 21;
        static final int KEY_DEBTS = 22;
        static final int KEY_NUMBER = 23;
        private static final int KEYS = 24;
        private static final String KEY_WORDS =
                "man forfeit minds good owes wears mends does buys lends repays strike week or and not proud owing has did pride credit debts number ";
        private static final int MOST_LETTERS = 7;
        private static final int MOST_DIGITS = 3;

        final byte[] bytes = new byte[TAPE_BYTES];
        private final long[] keyWords = new long[KEYS];
        private int length;
        private int mostBytes;
        private int at;
        int start;
        int kind;
        int key;
        long word;
        int value;
        long takenWord;
        int taken;
        int fault;
        int place;

        Tokens() {
            long letters = 0;
            int n = 0;
            for (int i = 0; i < KEY_WORDS.length() && n < KEYS; i++) {
                char letter = KEY_WORDS.charAt(i);
                if (letter == ' ') {
                    keyWords[n] = letters;
                    n++;
                    letters = 0;
                } else {
                    letters = letters << 8 | letter;
                }
            }
        }

        void start(int textLength, int textMost) {
            length = Math.min(textLength, TAPE_BYTES);
            mostBytes = textMost;
            at = 0;
            fault = 0;
            place = 0;
            next();
        }

        void next() {
            while (at < length && at < mostBytes && (bytes[at] == ' ' || bytes[at] == '\n')) {
                at++;
            }
            key = NONE;
            if (at >= mostBytes && length > mostBytes) {
                start = mostBytes;
                kind = NO_TOKEN;
            } else if (at >= length) {
                start = length;
                kind = END;
            } else {
                start = at;
                readRun();
                if (at == start) {
                    readSign();
                } else if (kind == WORD) {
                    key = keyOf(word);
                }
            }
        }

        private void readRun() {
            int letters = 0;
            int digits = 0;
            word = 0;
            value = 0;
            while (at < length) {
                int b = bytes[at];
                if (b >= 'a' && b <= 'z') {
                    letters++;
                    word = word << 8 | b;
                } else if (b >= '0' && b <= '9') {
                    digits++;
                    value = value * 10 + (b - '0');
                } else {
                    break;
                }
                at++;
            }
            if (digits == 0) {
                kind = letters <= MOST_LETTERS ? WORD : NO_TOKEN;
            } else {
                kind = letters == 0 && digits <= MOST_DIGITS ? NUMBER : NO_TOKEN;
            }
        }

        private int keyOf(long letters) {
            for (int i = 0; i < KEYS; i++) {
                if (keyWords[i] == letters) {
                    return i;
                }
            }
            return NONE;
        }

        private void readSign() {
            value = at < length ? bytes[at] : 0;
            at++;
            boolean sign = value == ';' || value == '<' || value == '=' || value == '>' || value == '('
                    || value == ')';
            kind = sign ? SIGN : NO_TOKEN;
        }

        boolean fails(int faultKind, int faultPlace) {
            fault = faultKind;
            place = faultPlace;
            return false;
        }

        boolean isSign(int sign) {
            return kind == SIGN && value == sign;
        }

        boolean takesSign(int sign) {
            if (!isSign(sign)) {
                return fails(CANT_COME, start);
            }
            next();
            return true;
        }

        boolean takesNumber(int least, int greatest) {
            if (kind != NUMBER) {
                return fails(CANT_COME, start);
            }
            if (value < least || value > greatest) {
                return fails(NOT_AS_TOLD, start);
            }
            taken = value;
            next();
            return true;
        }

        boolean takesNewName(Duchy duchy) {
            if (kind != WORD || key != NONE) {
                return fails(CANT_COME, start);
            }
            if (duchy.placeOf(word) != NONE) {
                return fails(WRONG_NAME, start);
            }
            takenWord = word;
            next();
            return true;
        }

        boolean takesName(Duchy duchy, int sort) {
            if (kind != WORD || key != NONE) {
                return fails(CANT_COME, start);
            }
            int named = duchy.placeOf(word);
            if (named == NONE || named / MOST != sort) {
                return fails(WRONG_NAME, start);
            }
            taken = named % MOST;
            next();
            return true;
        }
    }

    /** What is so in a DUCHY by now; rows of pairs hold man * MOST + the other one. */
    private static final class State {
        final int[] pride = new int[MOST];
        final int[] credit = new int[MOST];
        final int[] paid = new int[MOST];
        final int[] stock = new int[MOST];
        final int[] debts = new int[PAIRS];
        final int[] times = new int[PAIRS];
        final int[] bought = new int[PAIRS];
        int week;

        void clear() {
            Arrays.fill(pride, 0);
            Arrays.fill(credit, 0);
            Arrays.fill(paid, 0);
            Arrays.fill(stock, 0);
            Arrays.fill(debts, 0);
            Arrays.fill(times, 0);
            Arrays.fill(bought, 0);
            week = 0;
        }

        void takeAll(State from) {
            copyRow(from.pride, pride);
            copyRow(from.credit, credit);
            copyRow(from.paid, paid);
            copyRow(from.stock, stock);
            copyRow(from.debts, debts);
            copyRow(from.times, times);
            copyRow(from.bought, bought);
            week = from.week;
        }

        int allOwedBy(int m) {
            return sum(debts, m * MOST, 1, MOST);
        }

        int allCredit() {
            return sum(credit, 0, 1, MOST);
        }
    }

    /** A DUCHY as told, with its state and its SENTENCE: all that an image keeps. */
    private static final class Duchy {
        static final int MEN = 0;
        static final int FORFEITS = 1;
        static final int GOODS = 2;
        private static final int SORTS = 3;

        private final int[] counts = new int[SORTS];
        final long[] names = new long[SORTS * MOST];
        final int[] told = new int[MOST];
        private final int[] bites = new int[MOST];
        private final int[] minds = new int[PAIRS];
        final int[] worths = new int[MOST];
        int wears;
        int mends;
        final State state = new State();
        final Sentence sentence = new Sentence();

        Duchy() {
            wears = 1;
            mends = 1;
        }

        int men() {
            return counts[MEN];
        }

        int forfeits() {
            return counts[FORFEITS];
        }

        int goods() {
            return counts[GOODS];
        }

        boolean has(int sort, int i) {
            return i >= 0 && i < counts[sort];
        }

        int placeOf(long name) {
            for (int sort = 0; sort < SORTS; sort++) {
                for (int i = 0; i < counts[sort]; i++) {
                    if (names[sort * MOST + i] == name) {
                        return sort * MOST + i;
                    }
                }
            }
            return NONE;
        }

        int costAfter(int m, int f, int times) {
            int minded = minds[m * MOST + f];
            int worn = minded - wears * times;
            return minded == 0 ? 0 : worn < 1 ? 1 : worn;
        }

        int costNow(State from, int m, int f) {
            return costAfter(m, f, from.times[m * MOST + f]);
        }

        void takeAll(Duchy from) {
            copyRow(from.counts, counts);
            System.arraycopy(from.names, 0, names, 0, SORTS * MOST);
            copyRow(from.told, told);
            copyRow(from.minds, minds);
            copyRow(from.worths, worths);
            wears = from.wears;
            mends = from.mends;
            state.takeAll(from.state);
            sentence.takeAll(from.sentence);
        }

        /** How many LINES there are; a FAULT is left with the tokens. */
        int readLines(Tokens in) {
            clear();
            int lines = 0;
            for (int i = 0; i < DUCHY_BYTES && in.fault == 0 && in.kind != Tokens.END; i++) {
                if (readLine(in) && in.takesSign(';')) {
                    lines++;
                }
            }
            fillWhatWasNotTold();
            return lines;
        }

        private void clear() {
            Arrays.fill(counts, 0);
            Arrays.fill(minds, NONE);
            wears = NONE;
            mends = NONE;
            state.clear();
            sentence.clear();
        }

        private void fillWhatWasNotTold() {
            wears = wears == NONE ? 1 : wears;
            mends = mends == NONE ? 1 : mends;
            for (int i = 0; i < PAIRS; i++) {
                if (minds[i] == NONE) {
                    minds[i] = i % MOST < forfeits() ? bites[i % MOST] : 0;
                }
            }
        }

        private boolean readLine(Tokens in) {
            switch (in.key) {
                case Tokens.KEY_MAN:
                    return readMan(in);
                case Tokens.KEY_FORFEIT:
                    return readForfeit(in);
                case Tokens.KEY_MINDS:
                    return readMinds(in);
                case Tokens.KEY_GOOD:
                    return readGood(in);
                case Tokens.KEY_OWES:
                    return readOwes(in);
                case Tokens.KEY_WEARS:
                    return readWears(in);
                case Tokens.KEY_MENDS:
                    return readMends(in);
                default:
                    return in.fails(CANT_COME, in.start);
            }
        }

        /** One too many is a FAULT of the LINE's first WORD, whatever comes behind it. */
        private boolean takesFirstWord(Tokens in, int sort) {
            if (counts[sort] >= MOST) {
                return in.fails(TOO_MANY, in.start);
            }
            in.next();
            return true;
        }

        private boolean readMan(Tokens in) {
            if (!takesFirstWord(in, MEN) || !in.takesNewName(this) || !in.takesNumber(0, MOST_PRIDE)) {
                return false;
            }
            int m = addName(MEN, in.takenWord);
            told[m] = in.taken;
            state.pride[m] = in.taken;
            return true;
        }

        private boolean readForfeit(Tokens in) {
            if (!takesFirstWord(in, FORFEITS) || !in.takesNewName(this) || !in.takesNumber(0, MOST_BITE)) {
                return false;
            }
            bites[addName(FORFEITS, in.takenWord)] = in.taken;
            return true;
        }

        private boolean readGood(Tokens in) {
            if (!takesFirstWord(in, GOODS) || !in.takesNewName(this) || !in.takesNumber(1, 99)) {
                return false;
            }
            int worth = in.taken;
            if (!in.takesNumber(0, 20)) {
                return false;
            }
            int g = addName(GOODS, in.takenWord);
            worths[g] = worth;
            state.stock[g] = in.taken;
            return true;
        }

        /** Called only where the sort has room: takesFirstWord has looked. */
        private int addName(int sort, long name) {
            int i = Math.min(counts[sort], MOST - 1);
            names[sort * MOST + i] = name;
            counts[sort] = i + 1;
            return i;
        }

        private boolean readMinds(Tokens in) {
            in.next();
            if (!in.takesName(this, MEN)) {
                return false;
            }
            int m = in.taken;
            int second = in.start;
            if (!in.takesName(this, FORFEITS)) {
                return false;
            }
            int pair = m * MOST + in.taken;
            if (minds[pair] != NONE) {
                return in.fails(WRONG_NAME, second);
            }
            if (!in.takesNumber(0, MOST_BITE)) {
                return false;
            }
            minds[pair] = in.taken;
            return true;
        }

        private boolean readOwes(Tokens in) {
            in.next();
            if (!in.takesName(this, MEN)) {
                return false;
            }
            int m = in.taken;
            int second = in.start;
            if (!in.takesName(this, MEN)) {
                return false;
            }
            int pair = m * MOST + in.taken;
            if (m == in.taken || state.debts[pair] != 0) {
                return in.fails(WRONG_NAME, second);
            }
            if (!in.takesNumber(1, MOST_DEBT)) {
                return false;
            }
            state.debts[pair] = in.taken;
            return true;
        }

        private boolean readWears(Tokens in) {
            if (wears != NONE) {
                return in.fails(WRONG_NAME, in.start);
            }
            in.next();
            if (!in.takesNumber(0, 9)) {
                return false;
            }
            wears = in.taken;
            return true;
        }

        private boolean readMends(Tokens in) {
            if (mends != NONE) {
                return in.fails(WRONG_NAME, in.start);
            }
            in.next();
            if (!in.takesNumber(0, 9)) {
                return false;
            }
            mends = in.taken;
            return true;
        }
    }

    /** A SENTENCE, each operator behind what it joins, so that it is said without brackets. */
    private static final class Sentence {
        private static final int MOST_ONES = 20;
        private static final int MOST_WITHIN = 8;
        private static final int MOST_CODE = 2 * MOST_ONES;

        private final int[] code = new int[MOST_CODE];
        private final int[] stack = new int[MOST_ONES];
        int length;
        int ones;

        void clear() {
            length = 0;
            ones = 0;
        }

        void takeAll(Sentence from) {
            copyRow(from.code, code);
            length = from.length;
            ones = from.ones;
        }

        boolean readWhole(Tokens in, Duchy duchy) {
            clear();
            if (!readCond(in, duchy, 1)) {
                return false;
            }
            return in.kind == Tokens.END || in.fails(CANT_COME, in.start);
        }

        /** 'and' binds at once; an 'or' waits until its right side is whole. */
        private boolean readCond(Tokens in, Duchy duchy, int depth) {
            if (!readOne(in, duchy, depth)) {
                return false;
            }
            boolean orWaits = false;
            for (int i = 0; i < MOST_ONES && (in.key == Tokens.KEY_AND || in.key == Tokens.KEY_OR); i++) {
                boolean and = in.key == Tokens.KEY_AND;
                if (!and && orWaits) {
                    add(Tokens.KEY_OR, 0, 0);
                }
                orWaits = orWaits || !and;
                in.next();
                if (!readOne(in, duchy, depth)) {
                    return false;
                }
                if (and) {
                    add(Tokens.KEY_AND, 0, 0);
                }
            }
            if (orWaits) {
                add(Tokens.KEY_OR, 0, 0);
            }
            return true;
        }

        private boolean readOne(Tokens in, Duchy duchy, int depth) {
            boolean bracket = in.isSign('(');
            if (!bracket && (in.key < Tokens.KEY_NOT || in.key > Tokens.KEY_NUMBER)) {
                return in.fails(CANT_COME, in.start);
            }
            if (ones >= MOST_ONES || depth > MOST_WITHIN) {
                return in.fails(TOO_MANY, in.start);
            }
            ones++;
            int key = in.key;
            in.next();
            if (bracket) {
                return readCond(in, duchy, depth + 1) && in.takesSign(')');
            }
            if (key == Tokens.KEY_NOT) {
                return readOne(in, duchy, depth + 1) && add(key, 0, 0);
            }
            return readPlainOne(in, duchy, key);
        }

        private boolean readPlainOne(Tokens in, Duchy duchy, int key) {
            switch (key) {
                case Tokens.KEY_PROUD:
                    return add(key, 0, 0);
                case Tokens.KEY_OWING:
                    return in.takesName(duchy, Duchy.MEN) && add(key, 0, in.taken);
                case Tokens.KEY_HAS:
                    return in.takesName(duchy, Duchy.GOODS) && add(key, 0, in.taken);
                case Tokens.KEY_DID:
                    return in.takesName(duchy, Duchy.FORFEITS) && add(key, 0, in.taken);
                default:
                    break;
            }
            int sign = in.value;
            if (!in.isSign('<') && !in.isSign('=') && !in.isSign('>')) {
                return in.fails(CANT_COME, in.start);
            }
            in.next();
            return in.takesNumber(0, 999) && add(key, sign, in.taken);
        }

        private boolean add(int key, int sign, int number) {
            if (length < MOST_CODE) {
                code[length] = key | sign << 8 | number << 16;
                length++;
            }
            return true;
        }

        /** MEN of whom it may be said, as bits: all of them are asked at once. */
        int menOf(Duchy duchy) {
            int all = (1 << duchy.men()) - 1;
            int top = 0;
            for (int i = 0; i < length; i++) {
                int key = code[i] & 255;
                if (key == Tokens.KEY_NOT) {
                    if (top >= 1) {
                        stack[top - 1] ^= all;
                    }
                } else if (key == Tokens.KEY_AND || key == Tokens.KEY_OR) {
                    if (top >= 2) {
                        top--;
                        int right = stack[top];
                        int left = stack[top - 1];
                        stack[top - 1] = key == Tokens.KEY_AND ? left & right : left | right;
                    }
                } else if (top < MOST_ONES) {
                    stack[top] = menOfOne(duchy, code[i]);
                    top++;
                }
            }
            return top >= 1 ? stack[0] : 0;
        }

        private static int menOfOne(Duchy duchy, int one) {
            int men = 0;
            for (int m = 0; m < duchy.men(); m++) {
                if (isSo(duchy, one, m)) {
                    men |= 1 << m;
                }
            }
            return men;
        }

        private static boolean isSo(Duchy duchy, int one, int m) {
            State state = duchy.state;
            int number = one >>> 16;
            int sign = one >>> 8 & 255;
            int other = m * MOST + Math.min(number, MOST - 1);
            switch (one & 255) {
                case Tokens.KEY_PROUD:
                    return state.pride[m] == duchy.told[m];
                case Tokens.KEY_OWING:
                    return state.debts[other] > 0;
                case Tokens.KEY_HAS:
                    return state.bought[other] > 0;
                case Tokens.KEY_DID:
                    return state.times[other] > 0;
                case Tokens.KEY_PRIDE:
                    return holds(state.pride[m], sign, number);
                case Tokens.KEY_CREDIT:
                    return holds(state.credit[m], sign, number);
                case Tokens.KEY_DEBTS:
                    return holds(state.allOwedBy(m), sign, number);
                default:
                    return holds(m, sign, number);
            }
        }

        private static boolean holds(int left, int sign, int right) {
            return sign == '<' ? left < right : sign == '>' ? left > right : left == right;
        }
    }

    /** A BOOK's LINES, and what the latest one without a FAULT came to. */
    private static final class Book {
        private static final int MOST_LINES = 40;
        private static final int PARTS = 4;
        private static final int TOLD = 4;

        private final int[] rows = new int[MOST_LINES * PARTS];
        private int lines;
        final int[] told = new int[TOLD];
        int toldRows;

        boolean readLines(Tokens in, Duchy duchy) {
            lines = 0;
            for (int i = 0; i <= MOST_LINES && in.fault == 0 && in.kind != Tokens.END; i++) {
                if (readLine(in, duchy) && in.takesSign(';')) {
                    lines++;
                }
            }
            return in.fault == 0;
        }

        private boolean readLine(Tokens in, Duchy duchy) {
            int first = in.start;
            int key = in.key;
            boolean ofMan = key != Tokens.KEY_STRIKE && key != Tokens.KEY_WEEK;
            if (ofMan && !in.takesName(duchy, Duchy.MEN)) {
                return false;
            }
            if (lines >= MOST_LINES) {
                return in.fails(TOO_MANY, first);
            }
            if (ofMan) {
                return readOfMan(in, duchy, in.taken);
            }
            in.next();
            if (key == Tokens.KEY_STRIKE) {
                return add(Acts.STRIKE, 0, 0, 0);
            }
            return in.takesNumber(1, MOST_WEEKS) && add(Acts.PASS, 0, 0, in.taken);
        }

        private boolean readOfMan(Tokens in, Duchy duchy, int m) {
            int key = in.key;
            if (key < Tokens.KEY_DOES || key > Tokens.KEY_REPAYS) {
                return in.fails(CANT_COME, in.start);
            }
            in.next();
            if (key == Tokens.KEY_DOES) {
                return in.takesName(duchy, Duchy.FORFEITS) && add(Acts.DO, m, in.taken, 0);
            }
            if (key == Tokens.KEY_BUYS) {
                return in.takesName(duchy, Duchy.GOODS) && add(Acts.BUY, m, in.taken, 0);
            }
            if (!in.takesName(duchy, Duchy.MEN)) {
                return false;
            }
            int k = in.taken;
            int act = key == Tokens.KEY_LENDS ? Acts.LEND : Acts.REPAY;
            return in.takesNumber(1, MOST_DEBT) && add(act, m, k, in.taken);
        }

        private boolean add(int act, int m, int k, int n) {
            int at = lines * PARTS;
            if (at + PARTS <= rows.length) {
                rows[at] = act;
                rows[at + 1] = m;
                rows[at + 2] = k;
                rows[at + 3] = n;
            }
            return true;
        }

        /** The LINE that is WRONG, or NONE; the state is as the LINES ahead of it leave it. */
        int live(Acts acts, State state) {
            int why = 0;
            int lived = 0;
            for (int i = 0; i < lines && why == 0; i++) {
                int at = i * PARTS;
                int act = rows[at];
                why = acts.whyNot(state, act, rows[at + 1], rows[at + 2], rows[at + 3]);
                if (why == 0) {
                    acts.perform(state, act, rows[at + 1], rows[at + 2], rows[at + 3]);
                    lived++;
                } else {
                    why += 10 * act;
                }
            }
            told[0] = why;
            told[1] = lived;
            told[2] = state.week;
            told[3] = state.allCredit();
            toldRows = TOLD;
            return why == 0 ? NONE : lived;
        }
    }

    /** What men of a DUCHY do, on its own state or on a trial one. */
    private static final class Acts {
        /** Numbered so that ten times an act comes before why its LINE is WRONG. */
        static final int DO = 0;
        static final int BUY = 1;
        static final int LEND = 2;
        static final int REPAY = 3;
        static final int STRIKE = 4;
        static final int PASS = 5;
        private static final int SETS = 1 << MOST;

        final Duchy duchy = new Duchy();
        final Ring ring = new Ring();
        private final int[] groups = new int[SETS];
        private final int[] balances = new int[SETS];
        private int seed;

        /** 0, if the act can be done; k is the FORFEIT, the GOOD or the other MAN. */
        int whyNot(State state, int act, int m, int k, int n) {
            switch (act) {
                case DO:
                    int cost = duchy.costNow(state, m, k);
                    return cost == 0 ? 1 : state.pride[m] < cost ? 2 : 0;
                case BUY:
                    return state.stock[k] == 0 ? 1 : state.credit[m] < duchy.worths[k] ? 2 : 0;
                case LEND:
                    return m == k ? 1 : state.credit[m] < n ? 2 : 0;
                case REPAY:
                    return state.debts[m * MOST + k] < n ? 1 : state.credit[m] < n ? 2 : 0;
                case STRIKE:
                    return ring.find(state, duchy.men()) ? 0 : 1;
                default:
                    return ALL_WEEKS - state.week < n ? 1 : 0;
            }
        }

        /** Only for what whyNot has let through: it does not look again. */
        int perform(State state, int act, int m, int k, int n) {
            switch (act) {
                case DO:
                    return doForfeit(state, m, k);
                case BUY:
                    state.credit[m] -= duchy.worths[k];
                    state.stock[k]--;
                    state.bought[m * MOST + k]++;
                    return n;
                case LEND:
                    state.credit[m] -= n;
                    state.credit[k] += n;
                    state.debts[k * MOST + m] += n;
                    return n;
                case REPAY:
                    state.credit[m] -= n;
                    state.credit[k] += n;
                    state.debts[m * MOST + k] -= n;
                    return n;
                case STRIKE:
                    return ring.strikeFrom(state);
                default:
                    passWeeks(state, n);
                    return n;
            }
        }

        private int doForfeit(State state, int m, int f) {
            int cost = duchy.costNow(state, m, f);
            state.pride[m] -= cost;
            state.credit[m] += cost;
            state.paid[m] += cost;
            state.times[m * MOST + f]++;
            return cost;
        }

        private void passWeeks(State state, int n) {
            for (int m = 0; m < duchy.men(); m++) {
                state.pride[m] = Math.min(duchy.told[m], state.pride[m] + n * duchy.mends);
            }
            state.week += n;
        }

        void drawWeeks(State state, int n, int firstSeed) {
            seed = firstSeed;
            for (int i = 0; i < n; i++) {
                for (int m = 0; m < duchy.men(); m++) {
                    drawAct(state, m);
                }
                passWeeks(state, 1);
            }
        }

        private void drawAct(State state, int m) {
            switch (draw(4)) {
                case 1:
                    drawOne(state, DO, m, duchy.forfeits());
                    break;
                case 2:
                    drawOne(state, BUY, m, duchy.goods());
                    break;
                case 3:
                    drawOne(state, REPAY, m, duchy.men());
                    break;
                default:
                    break;
            }
        }

        private void drawOne(State state, int act, int m, int count) {
            if (count <= 0) {
                return;
            }
            int k = draw(count);
            if (whyNot(state, act, m, k, 1) == 0) {
                perform(state, act, m, k, 1);
            }
        }

        private int draw(int n) {
            seed = seed * 1103515245 + 12345;
            return n > 0 ? (seed >>> 8) % n : 0;
        }

        int timesLeft(int m, int f) {
            int pride = duchy.state.pride[m];
            int begun = duchy.state.times[m * MOST + f];
            int times = 0;
            for (int i = 0; i <= MOST_PRIDE; i++) {
                int cost = duchy.costAfter(m, f, begun + i);
                if (cost == 0 || cost > pride) {
                    break;
                }
                pride -= cost;
                times++;
            }
            return times;
        }

        int mildestForfeit(int m) {
            int mildest = NONE;
            int least = 0;
            for (int f = 0; f < duchy.forfeits(); f++) {
                int cost = duchy.costNow(duchy.state, m, f);
                if (cost > 0 && cost <= duchy.state.pride[m] && (mildest == NONE || cost < least)) {
                    mildest = f;
                    least = cost;
                }
            }
            return mildest;
        }

        /** Men who are even among themselves need a payment less than they are: the more such groups, the better. */
        int fewestPayments() {
            int men = duchy.men();
            int sets = 1 << men;
            groups[0] = 0;
            balances[0] = 0;
            for (int set = 1; set < sets && set < SETS; set++) {
                int most = 0;
                for (int m = 0; m < men; m++) {
                    if ((set >>> m & 1) == 1) {
                        int others = set & ~(1 << m);
                        most = Math.max(most, groups[others]);
                        balances[set] = balances[others] + balanceOf(m);
                    }
                }
                groups[set] = balances[set] == 0 ? most + 1 : most;
            }
            return men - groups[sets - 1];
        }

        private int balanceOf(int m) {
            return sum(duchy.state.debts, m, MOST, MOST) - duchy.state.allOwedBy(m);
        }
    }

    /** The first of the smallest RINGS. */
    private static final class Ring {
        final int[] men = new int[MOST];
        int size;

        void takeAll(Ring from) {
            copyRow(from.men, men);
            size = from.size;
        }

        boolean find(State state, int count) {
            for (int wanted = 2; wanted <= count; wanted++) {
                for (int first = 0; first < count; first++) {
                    men[0] = first;
                    size = wanted;
                    if (closes(state, count, 1, 1 << first)) {
                        return true;
                    }
                }
            }
            size = 0;
            return false;
        }

        /** Only MEN behind the first one come, for a RING begins with its least. */
        private boolean closes(State state, int count, int depth, int within) {
            if (depth < 1 || depth > size || depth > MOST) {
                return false;
            }
            int last = men[depth - 1];
            if (depth == size) {
                return state.debts[last * MOST + men[0]] > 0;
            }
            for (int m = men[0] + 1; m < count; m++) {
                if ((within >>> m & 1) == 0 && state.debts[last * MOST + m] > 0) {
                    men[depth] = m;
                    if (closes(state, count, depth + 1, within | 1 << m)) {
                        return true;
                    }
                }
            }
            return false;
        }

        int strikeFrom(State state) {
            int least = 0;
            for (int i = 0; i < size; i++) {
                int debt = state.debts[pairAt(i)];
                least = i == 0 ? debt : Math.min(least, debt);
            }
            for (int i = 0; i < size; i++) {
                state.debts[pairAt(i)] -= least;
            }
            return least;
        }

        private int pairAt(int i) {
            return men[i] * MOST + men[i + 1 < size ? i + 1 : 0];
        }
    }

    /** The acts that can be undone: each with the state ahead of it, the oldest overwritten first. */
    private static final class Past {
        private static final int KEPT = 8;

        private final State[] states = new State[KEPT];
        private int next;
        private int size;

        Past() {
            for (int i = 0; i < KEPT; i++) {
                states[i] = new State();
            }
        }

        void keep(State state) {
            states[next].takeAll(state);
            next = (next + 1) % KEPT;
            size = Math.min(size + 1, KEPT);
        }

        int giveBack(State state) {
            if (size == 0) {
                return NONE;
            }
            next = (next + KEPT - 1) % KEPT;
            state.takeAll(states[next]);
            size--;
            return size;
        }

        void forget() {
            size = 0;
        }
    }

    /** The latest PLAN. */
    private static final class Plan {
        private static final int MOST_TIMES = 20;
        private static final int PAYS = MOST_TIMES + 1;
        private static final int SUMS = MOST_PRIDE + 1;
        private static final int NEVER = 1000;

        /** By FORFEIT and sum: the fewest times in which it and those behind it pay just that. */
        private final int[] fewest = new int[(MOST + 1) * SUMS];
        private final int[] pays = new int[MOST * PAYS];
        final int[] times = new int[MOST];
        int forfeits;

        int find(Duchy duchy, int m, int w) {
            int pride = Math.min(duchy.state.pride[m], MOST_PRIDE);
            int count = duchy.forfeits();
            fillPays(duchy, m, count);
            for (int sum = 0; sum <= pride; sum++) {
                fewest[count * SUMS + sum] = sum == 0 ? 0 : NEVER;
            }
            for (int f = count - 1; f >= 0; f--) {
                for (int sum = 0; sum <= pride; sum++) {
                    fewest[f * SUMS + sum] = fewestFor(f, sum);
                }
            }
            for (int sum = w; sum <= pride; sum++) {
                if (fewest[sum] < NEVER) {
                    choose(count, sum);
                    return sum;
                }
            }
            return NONE;
        }

        private void fillPays(Duchy duchy, int m, int count) {
            for (int f = 0; f < count; f++) {
                int begun = duchy.state.times[m * MOST + f];
                int paid = 0;
                for (int i = 0; i < PAYS; i++) {
                    pays[f * PAYS + i] = paid;
                    paid += duchy.costAfter(m, f, begun + i);
                }
            }
        }

        private int fewestFor(int f, int sum) {
            int best = NEVER;
            for (int i = 0; i < PAYS; i++) {
                int paid = pays[f * PAYS + i];
                if (paid > sum) {
                    break;
                }
                best = Math.min(best, i + fewest[(f + 1) * SUMS + sum - paid]);
            }
            return best;
        }

        private void choose(int count, int sum) {
            int left = sum;
            for (int f = 0; f < count; f++) {
                for (int i = 0; i < PAYS; i++) {
                    int rest = left - pays[f * PAYS + i];
                    if (rest >= 0 && i + fewest[(f + 1) * SUMS + rest] == fewest[f * SUMS + left]) {
                        times[f] = i;
                        left = rest;
                        break;
                    }
                }
            }
            forfeits = count;
        }
    }

    /** The latest TAX. */
    private static final class Tax {
        private static final int SUMS = MOST * MOST_BITE + 1;

        /** By MAN and FORFEIT: its COST, or 0 where he may not do it. */
        private final int[] costs = new int[PAIRS];
        /** By MAN and sum: whether he and those behind him can pay just that. */
        private final boolean[] can = new boolean[(MOST + 1) * SUMS];
        final int[] chosen = new int[MOST];
        int men;

        int find(Duchy duchy, int t) {
            fillCosts(duchy);
            int greatest = leastGreatest(t);
            if (greatest == NONE) {
                return NONE;
            }
            fillCan(duchy.men(), greatest);
            for (int sum = t; sum < SUMS; sum++) {
                if (can[sum]) {
                    choose(duchy.men(), greatest, sum);
                    return greatest;
                }
            }
            return NONE;
        }

        private void fillCosts(Duchy duchy) {
            Arrays.fill(costs, 0);
            for (int m = 0; m < duchy.men(); m++) {
                for (int f = 0; f < duchy.forfeits(); f++) {
                    int cost = duchy.costNow(duchy.state, m, f);
                    costs[m * MOST + f] = cost <= duchy.state.pride[m] ? cost : 0;
                }
            }
        }

        private int leastGreatest(int t) {
            for (int greatest = 0; greatest <= MOST_BITE; greatest++) {
                int all = 0;
                for (int m = 0; m < MOST; m++) {
                    all += dearest(m, greatest);
                }
                if (all >= t) {
                    return greatest;
                }
            }
            return NONE;
        }

        private int dearest(int m, int greatest) {
            int dearest = 0;
            for (int f = 0; f < MOST; f++) {
                int cost = costs[m * MOST + f];
                if (cost <= greatest && cost > dearest) {
                    dearest = cost;
                }
            }
            return dearest;
        }

        private void fillCan(int count, int greatest) {
            for (int sum = 0; sum < SUMS; sum++) {
                can[count * SUMS + sum] = sum == 0;
            }
            for (int m = count - 1; m >= 0; m--) {
                for (int sum = 0; sum < SUMS; sum++) {
                    can[m * SUMS + sum] = canPay(m, greatest, sum);
                }
            }
        }

        private boolean canPay(int m, int greatest, int sum) {
            boolean pays = can[(m + 1) * SUMS + sum];
            for (int f = 0; f < MOST && !pays; f++) {
                int cost = costs[m * MOST + f];
                pays = cost > 0 && cost <= greatest && cost <= sum && can[(m + 1) * SUMS + sum - cost];
            }
            return pays;
        }

        private void choose(int count, int greatest, int sum) {
            int left = sum;
            men = count;
            for (int m = 0; m < count; m++) {
                chosen[m] = NONE;
                for (int f = 0; f < MOST && chosen[m] == NONE; f++) {
                    int cost = costs[m * MOST + f];
                    if (cost > 0 && cost <= greatest && cost <= left && can[(m + 1) * SUMS + left - cost]) {
                        chosen[m] = f;
                        left -= cost;
                    }
                }
            }
        }
    }

    /** The latest FITS above 0, and which FORFEIT tells most among its MEN. */
    private static final class Fits {
        private static final int MOST_BYTES = 20;

        private final int[] done = new int[MOST];
        int telling = NONE;

        int find(Duchy duchy, byte[] tape, int length) {
            if (length < 2 || length > MOST_BYTES || length % 2 != 0 || length > tape.length) {
                return NONE;
            }
            for (int i = 0; i < length; i += 2) {
                if (!duchy.has(Duchy.FORFEITS, tape[i] & 255)) {
                    return NONE;
                }
            }
            int men = 0;
            for (int m = 0; m < duchy.men(); m++) {
                if (mayHavePaid(duchy, m, tape, length)) {
                    men |= 1 << m;
                }
            }
            if (men != 0) {
                countDone(duchy, tape, length);
                telling = mostTelling(duchy, men);
            }
            return men;
        }

        private boolean mayHavePaid(Duchy duchy, int m, byte[] tape, int length) {
            Arrays.fill(done, 0);
            for (int i = 0; i + 1 < length; i += 2) {
                int f = tape[i] & 255;
                if (!duchy.has(Duchy.FORFEITS, f)) {
                    return false;
                }
                int cost = duchy.costAfter(m, f, duchy.state.times[m * MOST + f] + done[f]);
                if (cost == 0 || cost != (tape[i + 1] & 255)) {
                    return false;
                }
                done[f]++;
            }
            return true;
        }

        private void countDone(Duchy duchy, byte[] tape, int length) {
            Arrays.fill(done, 0);
            for (int i = 0; i < length; i += 2) {
                int f = tape[i] & 255;
                if (duchy.has(Duchy.FORFEITS, f)) {
                    done[f]++;
                }
            }
        }

        private int mostTelling(Duchy duchy, int men) {
            int best = NONE;
            int fewestLeft = 0;
            for (int f = 0; f < duchy.forfeits(); f++) {
                int left = mostLeft(duchy, men, f);
                if (best == NONE || left < fewestLeft) {
                    best = f;
                    fewestLeft = left;
                }
            }
            return best;
        }

        /** The greatest number of these MEN for whom the FORFEIT would cost the same next. */
        private int mostLeft(Duchy duchy, int men, int f) {
            int most = 0;
            for (int cost = 0; cost <= MOST_BITE; cost++) {
                int alike = 0;
                for (int m = 0; m < duchy.men(); m++) {
                    int times = duchy.state.times[m * MOST + f] + done[f];
                    if ((men >>> m & 1) == 1 && duchy.costAfter(m, f, times) == cost) {
                        alike++;
                    }
                }
                most = Math.max(most, alike);
            }
            return most;
        }
    }
}
