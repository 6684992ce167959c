import java.util.function.ToIntFunction;

/**
 * The bounds of each text, TOKEN and NUMBER and the places of the FAULTS (Terms, ==== 1.; promises 4, 5, 37, 39), both
 * sides of each. A text with a FAULT has a bar at its place; nothing is changed by it (Twins).
 */
public final class TextEdgesTest {
    private static final Checks c = new Checks();
    private static final String[] WORDS = {"man", "forfeit", "minds", "good", "owes", "wears", "mends", "does", "buys", "lends",
        "repays", "strike", "week", "or", "and", "not", "proud", "owing", "has", "did", "pride", "credit", "debts", "number"};
    private static final String TWO = "man a 9;man b 9;forfeit f 5;";

    public static void main(String[] args) {
        lettersOfWords();
        digitsOfNumbers();
        goesOn();
        blanksBetween();
        signs();
        numbersOfDuchies();
        withoutThem();
        once();
        names();
        sixOfEach();
        emptyTexts();
        numbersOfBooks();
        namesOfBooks();
        fortyLines();
        numbersOfSentences();
        namesOfSentences();
        twentyOnes();
        eightWithin();
        firstAlong();
        leastOfOneToken();
        atTheEnd();
        cutTapes();
        mostBytes();
        beginAheadOfIt();
        faultOfTheLatest();
        c.end("TextEdgesTest");
    }

    private static MerryDuchy duchy(String text, int lines) {
        MerryDuchy d = Twins.lived();
        c.due("duchy '" + text + "'", Checks.duchy(d, text), lines);
        c.due("fault of '" + text + "'", d.fault(), 0);
        c.due("the tape behind '" + text + "'", d.count(5), 0);
        return d;
    }

    private static MerryDuchy book(String text, int wrong, int lines) {
        MerryDuchy d = Twins.lived();
        c.due("book '" + text + "'", Checks.book(d, text, 0), wrong);
        c.due("fault of '" + text + "'", d.fault(), 0);
        c.due("LINES of '" + text + "'", d.told(1), lines);
        c.due("the tape behind '" + text + "'", d.count(5), 0);
        return d;
    }

    private static MerryDuchy sentence(String text, int ones) {
        MerryDuchy d = Twins.lived();
        c.due("sentence '" + text + "'", Checks.sentence(d, text), ones);
        c.due("fault of '" + text + "'", d.fault(), 0);
        c.due("the tape behind '" + text + "'", d.count(5), 0);
        return d;
    }

    private static void badDuchy(String marked, int kind) {
        badDuchyAt(marked.indexOf('|'), marked.replace("|", ""), kind);
    }

    private static void badDuchyAt(int place, String text, int kind) {
        Twins.refusesText(c, text, kind, -1 - place, MerryDuchy::duchy);
    }

    private static void badBook(String marked, int kind) {
        badBookAt(marked.indexOf('|'), marked.replace("|", ""), kind);
    }

    private static void badBookAt(int place, String text, int kind) {
        Twins.refusesText(c, text, kind, -2 - place, d -> d.book(0));
        Twins.refusesText(c, text, kind, -2 - place, d -> d.book(1));
    }

    private static void badSentence(String marked, int kind) {
        badSentenceAt(marked.indexOf('|'), marked.replace("|", ""), kind);
    }

    private static void badSentenceAt(int place, String text, int kind) {
        Twins.refusesText(c, text, kind, -1 - place, MerryDuchy::sentence);
    }

    /** «WORDS: small letters, 1 to 7» */
    private static void lettersOfWords() {
        duchy("man a 1;", 1);
        duchy("man z 1;", 1);
        duchy("man abcdefg 1;", 1);
        badDuchy("man |abcdefgh 1;", 1);
        badDuchy("|forfeits f 1;", 1);
        badDuchy("man |A 1;", 1);
        badDuchy("man a|B 1;", 1);
        badBook("ann does |abcdefgh;", 1);
        badBook("ann does |abcdefg;", 3);
        badSentence("has |abcdefgh", 1);
        badSentence("has |abcdefg", 3);
        // as many letters as a long has room for must not make two WORDS alike
        badDuchy("|xxxxxman a 1;", 1);
        badDuchy("|aaaaaaaaaaaaaaman a 1;", 1);
    }

    /** «NUMBERS: 1 to 3 digits» */
    private static void digitsOfNumbers() {
        c.due("1 digit", duchy("man a 7;", 1).man(0, 1), 7);
        c.due("3 digits", duchy("man a 007;", 1).man(0, 1), 7);
        c.due("3 digits, all 0", duchy("man a 000;", 1).man(0, 1), 0);
        badDuchy("man a |0007;", 1);
        badDuchy("man a |0000;", 1);
        badDuchy("man a |4294967297;", 1);
        badDuchy("man a |999;", 2);
        badDuchy("man a |1000;", 1);
        // no TOKEN, though its digits are the number of a sign's byte
        badDuchy("man a 1 |0059", 1);
        badSentence("pride |0060 5", 1);
        book("week 001;", -1, 1);
        badBook("week |0001;", 1);
        sentence("pride<001", 1);
        badSentence("pride<|0001", 1);
    }

    /** «A WORD, NUMBER goes on as long as small letters and digits do; what is not as told is no TOKEN» */
    private static void goesOn() {
        badDuchy("|mana 1;", 1);
        badDuchy("|man1 1;", 1);
        badDuchy("man |a1 1;", 1);
        badDuchy("man |1a 1;", 1);
        badDuchy("man a |1a;", 1);
        badDuchy("man a |1man b 2;", 1);
        badDuchy("|wears1;", 1);
        badBook("ann does |jig1;", 1);
        badBook("|week1;", 1);
        badSentence("proud |or2 proud", 1);
        badSentence("pride<|1or proud", 1);
        badSentence("|notproud", 1);
        sentence("not(proud)or(pride<1)and credit=2", 6);
    }

    /** «with blanks (32, 10) between them or not» */
    private static void blanksBetween() {
        for (int b = 0; b < 256; b++) {
            String text = "man" + (char) b + "a 1;";
            boolean goesOn = b >= 'a' && b <= 'z' || b >= '0' && b <= '9';
            if (b == 32 || b == 10) {
                duchy(text, 1);
            } else {
                badDuchyAt(goesOn ? 0 : 3, text, 1);
            }
        }
        duchy("man a 1;man b 2;", 2);
        duchy("\n \nman  a\n\n1 \n;\n man\nb 2 ; \n", 2);
        book("week 1;strike;", -1, 2);
        book(" \nweek\n1 ;\n\nstrike  ; ", -1, 2);
        sentence("(pride<5)", 2);
        sentence(" \n( pride\n<  5 )\n", 2);
    }

    /** «; < = > ( )»: each where it is due, and no other byte. */
    private static void signs() {
        for (int b = 0; b < 256; b++) {
            boolean letter = b >= 'a' && b <= 'z';
            boolean digit = b >= '0' && b <= '9';
            boolean blank = b == 32 || b == 10;
            String line = "man a 1" + (char) b;
            if (b == ';') {
                duchy(line, 1);
            } else {
                badDuchyAt(letter ? 6 : blank || digit ? 8 : 7, line, 1);
            }
            String one = "pride" + (char) b + "5";
            if (b == '<' || b == '=' || b == '>') {
                sentence(one, 1);
            } else {
                badSentenceAt(letter || digit ? 0 : blank ? 6 : 5, one, 1);
            }
            String open = (char) b + " proud)";
            if (b == '(') {
                sentence(open, 2);
            } else {
                badSentenceAt(blank ? 7 : 0, open, 1);
            }
            String closed = "(proud " + (char) b;
            if (b == ')') {
                sentence(closed, 2);
            } else {
                badSentenceAt(blank ? 8 : 7, closed, 1);
            }
        }
    }

    /** A NUMBER of a LINE, the marked #: the least and the greatest are as told, those beside them are not. */
    private static void bounds(String text, int least, int greatest, ToIntFunction<MerryDuchy> kept) {
        int lines = text.split(";").length;
        for (int n : new int[] {least, greatest}) {
            c.due("kept of " + text + " for " + n, kept.applyAsInt(duchy(text.replace("#", "" + n), lines)), n);
        }
        for (int n : new int[] {least - 1, greatest + 1, 999}) {
            if (n >= 0) {
                badDuchy(text.replace("#", "|" + n), 2);
            }
        }
        badDuchy(text.replace("#", "|-1"), 1);
        badDuchy(text.replace("#", "|x"), 1);
        badDuchy(text.replace("#", "|;"), 1);
    }

    /** «PRIDE (0 to 99)», «BITE (0 to 20)», «N (0 to 20..», «(1 to 99; 0 to 20)», «1 to 99», «N (0 to 9..» */
    private static void numbersOfDuchies() {
        bounds("man a #;", 0, 99, d -> d.man(0, 1));
        bounds("man a 9;forfeit f #;", 0, 20, d -> d.cost(0, 0));
        bounds(TWO + "minds b f #;", 0, 20, d -> d.cost(1, 0));
        bounds("good g # 1;", 1, 99, d -> d.good(0, 0));
        bounds("good g 1 #;", 0, 20, d -> d.good(0, 1));
        bounds(TWO + "owes a b #;", 1, 99, d -> d.owes(0, 1));
        bounds("wears #;", 0, 9, d -> d.count(3));
        bounds("mends #;", 0, 9, d -> d.count(4));
    }

    /** «without: its BITE», «1 without» */
    private static void withoutThem() {
        MerryDuchy d = duchy("man a 9;forfeit f 5;forfeit h 20;man b 9;minds a h 0;", 5);
        c.due("its BITE", d.cost(0, 0), 5);
        c.due("minds it 0, not without", d.cost(0, 1), 0);
        c.due("its BITE, of a MAN behind it", d.cost(1, 1), 20);
        c.due("wears without", d.count(3), 1);
        c.due("mends without", d.count(4), 1);
        d = duchy("wears 0;mends 0;", 2);
        c.due("wears 0, not without", d.count(3), 0);
        c.due("mends 0, not without", d.count(4), 0);
    }

    /** «each two once», «each first and second once», «unlike», «once»: FAULT 3 «at the second», «at it» */
    private static void once() {
        duchy(TWO + "minds a f 0;minds b f 0;", 5);
        badDuchy(TWO + "minds a f 0;minds a |f 0;", 3);
        badDuchy(TWO + "minds a f 3;minds b f 3;minds a |f 4;", 3);
        duchy(TWO + "owes a b 1;owes b a 1;", 5);
        badDuchy(TWO + "owes a b 1;owes a |b 1;", 3);
        badDuchy(TWO + "owes a b 1;owes b a 1;owes b |a 2;", 3);
        badDuchy(TWO + "owes a |a 1;", 3);
        badDuchy(TWO + "owes b |b 1;", 3);
        duchy("wears 0;mends 0;", 2);
        badDuchy("wears 0;|wears 0;", 3);
        badDuchy("mends 0;|mends 0;", 3);
        badDuchy("wears 1;mends 1;|wears 2;", 3);
    }

    /** «NAME: a WORD, none of those told here, in a BOOK or a SENTENCE; told once»: 3 «told twice, not told, or of another sort» */
    private static void names() {
        for (String word : WORDS) {
            badDuchy("man |" + word + " 1;", 1);
            badDuchy("forfeit |" + word + " 1;", 1);
            badDuchy("good |" + word + " 1 1;", 1);
            if (word.length() < 7) {
                duchy("man " + word + "x 1;forfeit x" + word + " 1;", 2);
            }
        }
        String[] told = {"man a 1;", "forfeit a 1;", "good a 1 1;"};
        String[] again = {"man |a 1;", "forfeit |a 1;", "good |a 1 1;"};
        for (String one : told) {
            for (String other : again) {
                badDuchy(one + other, 3);
            }
        }
        badDuchy(TWO + "minds |c f 1;", 3);
        badDuchy(TWO + "minds |f f 1;", 3);
        badDuchy(TWO + "minds a |c 1;", 3);
        badDuchy(TWO + "minds a |b 1;", 3);
        badDuchy(TWO + "owes |c a 1;", 3);
        badDuchy(TWO + "owes |f a 1;", 3);
        badDuchy(TWO + "owes a |c 1;", 3);
        badDuchy(TWO + "owes a |f 1;", 3);
        badDuchy("owes |a b 1;man a 1;man b 1;", 3);
        // the NAMES of the DUCHY ahead are not told in the new one
        badDuchy("owes |ann bob 1;", 3);
    }

    private static String six(String line) {
        StringBuilder text = new StringBuilder();
        for (char n = 'a'; n < 'g'; n++) {
            text.append(line.replace('#', n));
        }
        return text.toString();
    }

    /** «6 MEN, 6 FORFEITS, 6 GOODS at most; MEN, FORFEITS, GOODS numbered from 0 each»: 4 «one more than there may be of a sort» */
    private static void sixOfEach() {
        String men = six("man m# 9;");
        String forfeits = six("forfeit f# 9;");
        String goods = six("good g# 9 1;");
        MerryDuchy d = duchy(men + forfeits + goods, 18);
        for (int what = 0; what < 3; what++) {
            c.due("6 of sort " + what, d.count(what), 6);
        }
        badDuchy(men + "|man x 1;", 4);
        badDuchy(forfeits + "|forfeit x 1;", 4);
        badDuchy(goods + "|good x 1 1;", 4);
        // it is told by the LINE's first WORD, ahead of what else is wrong in it
        badDuchy(men + "|man ma 100;", 4);
        badDuchy(forfeits + "|forfeit 1;", 4);
        badDuchy(goods + "|good", 4);
        badDuchy(men + forfeits + goods + "|man x 1;good x 1 1;", 4);
        duchy(men + forfeits + goods + "owes ma mf 1;minds mf ff 1;wears 1;mends 1;", 22);
        d = duchy("forfeit x 3;man b 7;good y 4 1;man a 8;good z 5 1;forfeit w 2;", 6);
        c.due("MAN 0", d.man(0, 1), 7);
        c.due("MAN 1", d.man(1, 1), 8);
        c.due("FORFEIT 0", d.cost(0, 0), 3);
        c.due("FORFEIT 1", d.cost(0, 1), 2);
        c.due("GOOD 0", d.good(0, 0), 4);
        c.due("GOOD 1", d.good(1, 0), 5);
    }

    /** «{ LINE ; }»: none is a DUCHY and a BOOK, not a SENTENCE. */
    private static void emptyTexts() {
        for (String text : new String[] {"", " ", "\n", " \n \n "}) {
            MerryDuchy d = duchy(text, 0);
            c.due("MEN of an empty DUCHY", d.count(0), 0);
            c.due("WEEK of an empty DUCHY", d.now(0), 0);
            c.due("wears of an empty DUCHY", d.count(3), 1);
            c.due("SENTENCE of an empty DUCHY", d.said(-1), -1);
            d = book(text, -1, 0);
            c.due("why an empty BOOK is WRONG", d.told(0), 0);
            c.due("WEEK behind an empty BOOK", d.told(2), d.now(0));
            badSentenceAt(text.length(), text, 1);
        }
        badDuchy("|;", 1);
        badBook("|;", 1);
        badSentence("|;", 1);
        badDuchy("man a 1;|;", 1);
        badBook("strike;|;", 1);
    }

    /** «N 1 to 99; of 'week' 1 to 60» */
    private static void numbersOfBooks() {
        MerryDuchy d = book("week 1;", -1, 1);
        c.due("a WEEK", d.told(2), d.now(0) + 1);
        d = book("week 60;", -1, 1);
        c.due("60 WEEKS", d.told(2), d.now(0) + 60);
        badBook("week |0;", 2);
        badBook("week |61;", 2);
        badBook("week |999;", 2);
        for (String does : new String[] {"lends", "repays"}) {
            int why = does.equals("lends") ? 22 : 31;
            d = book("cat " + does + " ann 99;", 0, 0);
            c.due(does + " 99", d.told(0), why);
            book("ann " + does + " bob 1;", -1, 1);
            badBook("ann " + does + " bob |0;", 2);
            badBook("ann " + does + " bob |100;", 2);
            badBook("ann " + does + " bob |;", 1);
        }
        badBook("ann does jig |1;", 1);
        badBook("ann buys hat |1;", 1);
        badBook("strike |1;", 1);
    }

    /** 3 «not told, or of another sort», of a BOOK; a LINE may be alike where the document does not say 'unlike'. */
    private static void namesOfBooks() {
        badBook("|zed does jig;", 3);
        badBook("|jig does jig;", 3);
        badBook("|hat buys hat;", 3);
        badBook("ann does |hat;", 3);
        badBook("ann does |bob;", 3);
        badBook("ann buys |jig;", 3);
        badBook("ann buys |ann;", 3);
        badBook("ann lends |hat 1;", 3);
        badBook("ann repays |jig 1;", 3);
        c.due("lends himself", book("ann lends ann 1;", 0, 0).told(0), 21);
        c.due("repays himself", book("ann repays ann 1;", 0, 0).told(0), 31);
        for (String word : WORDS) {
            if (!word.equals("strike") && !word.equals("week")) {
                badBook("|" + word + " does jig;", 1);
            }
            badBook("ann does |" + word + ";", 1);
            if (!word.equals("does") && !word.equals("buys") && !word.equals("lends") && !word.equals("repays")) {
                badBook("ann |" + word + " bob 1;", 1);
                badBook("ann |" + word + " jig;", 1);
            }
        }
    }

    /** «40 at most»: 4 «a 41st LINE of a BOOK (at the LINE's first WORD)» */
    private static void fortyLines() {
        String most = "week 1;".repeat(39);
        book(most + "ann does jig;", -1, 40);
        book(most + "strike;", -1, 40);
        String forty = most + "week 1;";
        book(forty, -1, 40);
        book(forty + " \n", -1, 40);
        badBook(forty + "|week 1;", 4);
        badBook(forty + "|strike;", 4);
        badBook(forty + "|ann does jig;", 4);
        badBook(forty + "|ann", 4);
        badBook(forty + " |week 61;", 4);
        // a LINE that is WRONG counts as one
        badBook("cat does sit;".repeat(15) + "strike;".repeat(25) + "|strike;", 4);
        // the most bytes end at the 41st LINE's first WORD: the least of the two
        badBook("cat does sit;".repeat(20) + "week 1;".repeat(20) + "|strike;", 1);
    }

    /** «SIGN NUMBER»: any NUMBER. */
    private static void numbersOfSentences() {
        for (String of : new String[] {"pride", "credit", "debts", "number"}) {
            c.due("not below 0", sentence(of + "<0", 1).said(-1), 0);
            c.due("not above 999", sentence(of + ">999", 1).said(-1), 0);
            c.due("below 999", sentence(of + "<999", 1).said(-1), 3);
            badSentence(of + "<|1000", 1);
            badSentence(of + "<|-1", 1);
            badSentence(of + "<|=1", 1);
            badSentence(of + " |1", 1);
            badSentence(of + "<|ann", 1);
        }
        MerryDuchy d = sentence("number=0", 1);
        c.due("number from 0", d.said(0), 0);
    }

    /** 3 «not told, or of another sort», of a SENTENCE. */
    private static void namesOfSentences() {
        badSentence("owing |zed", 3);
        badSentence("owing |hat", 3);
        badSentence("owing |jig", 3);
        badSentence("has |zed", 3);
        badSentence("has |ann", 3);
        badSentence("has |jig", 3);
        badSentence("did |zed", 3);
        badSentence("did |ann", 3);
        badSentence("did |hat", 3);
        badSentence("|ann", 1);
        for (String word : WORDS) {
            badSentence("owing |" + word, 1);
        }
    }

    /** «20 ONES»: 4 «a 21st ONE .. (at its first TOKEN)»; «each not, bracket and other one» */
    private static void twentyOnes() {
        String twenty = "did jig" + " or proud".repeat(19);
        sentence(twenty, 20);
        badSentence(twenty + " or |proud", 4);
        badSentence(twenty + " and |not proud", 4);
        badSentence(twenty + " or |(proud)", 4);
        badSentence(twenty + " or |owing zed", 4);
        sentence("not did jig" + " or proud".repeat(18), 20);
        badSentence("not did jig" + " or proud".repeat(18) + " or |proud", 4);
        sentence("(did jig)" + " or proud".repeat(18), 20);
        badSentence("(did jig)" + " or proud".repeat(18) + " or |proud", 4);
        sentence("not(did jig" + " or proud".repeat(17) + ")", 20);
        badSentence("not(did jig" + " or proud".repeat(17) + " or |proud)", 4);
    }

    /** «8 within one another»: 4 «a ninth within (at its first TOKEN)» */
    private static void eightWithin() {
        sentence("(".repeat(7) + "proud" + ")".repeat(7), 8);
        badSentence("(".repeat(8) + "|proud" + ")".repeat(8), 4);
        badSentence("(".repeat(8) + "|(proud" + ")".repeat(9), 4);
        sentence("not ".repeat(7) + "proud", 8);
        badSentence("not ".repeat(8) + "|proud", 4);
        badSentence("not ".repeat(8) + "|not proud", 4);
        sentence("not(not(not(not proud)))", 8);
        badSentence("not(not(not(not(|proud))))", 4);
        // beside one another is not within one another
        sentence("(((((((proud and did jig or has hat)))))))", 10);
        sentence("((((proud))))or((((proud))))or((((proud))))", 15);
        sentence("(((((((proud)))))))or(((((((proud)))))))", 16);
        badSentence("(((((((proud)))))))or((((((((|proud))))))))", 4);
    }

    /** «FAULTS, the first along the text» */
    private static void firstAlong() {
        badDuchy("man a |100;man a 1;.", 2);
        badDuchy("man a 1;man |a 100;", 3);
        badDuchy("man a |.;man b 100;", 1);
        badDuchy("wears |10;wears 1;", 2);
        badDuchy("wears 1;|wears 10;", 3);
        badDuchy(TWO + "owes a |a 0;", 3);
        badDuchy(TWO + "minds a f 1;minds a |f 21;", 3);
        badDuchy(TWO + "minds |z z 21;", 3);
        badDuchy("good g |0 21;", 2);
        badBook("week |0;zed", 2);
        badBook("|zed lends zed 0;", 3);
        badBook("ann lends |zed 0;", 3);
        badSentence("owing |zed and .", 3);
        badSentence("(proud |or2 or owing zed", 1);
    }

    /** «of one TOKEN the least» */
    private static void leastOfOneToken() {
        String forty = "week 1;".repeat(40);
        badBook(forty + "|zed does jig;", 3);
        badBook(forty + "|jig does jig;", 3);
        badBook(forty + "|does jig;", 1);
        badBook(forty + "|;", 1);
        badBook(forty + "|abcdefgh", 1);
        badBook(forty + "|5", 1);
        String twenty = "did jig" + " or proud".repeat(19);
        badSentence(twenty + " or |or", 1);
        badSentence(twenty + " or |)", 1);
        badSentence(twenty + " or |ann", 1);
        badSentence("not ".repeat(8) + "|and", 1);
        badSentence("(".repeat(8) + "|)", 1);
        badDuchy("man a |1000;", 1);
        badDuchy(six("man m# 9;") + "|mans x 1;", 1);
    }

    /** 1 «the end: how many bytes there are» */
    private static void atTheEnd() {
        String line = "man a 1";
        badDuchy(line + "|", 1);
        badDuchyAt(10, line + "   ", 1);
        badDuchy("man|", 1);
        badDuchy("man a|", 1);
        badDuchy("man a 1;minds|", 1);
        badDuchyAt(5, "good\n", 1);
        badBook("ann does jig|", 1);
        badBookAt(15, "ann does jig \n ", 1);
        badBook("ann|", 1);
        badBook("ann lends|", 1);
        badBook("ann lends bob|", 1);
        badBook("week|", 1);
        badBook("strike|", 1);
        badSentence("|", 1);
        badSentence("not|", 1);
        badSentence("proud or|", 1);
        badSentence("(proud|", 1);
        badSentence("pride|", 1);
        badSentence("pride<|", 1);
        badSentence("has|", 1);
        badSentenceAt(9, "(proud \n ", 1);
    }

    /** Promise 3: «its first n bytes alone»: what was on the tape behind them is no part of a text. */
    private static void cutTapes() {
        MerryDuchy d = Twins.lived();
        Checks.tape(d, "prouder or has hat");
        d.end(5);
        c.due("'proud'er", d.sentence(), 1);
        Checks.tape(d, "pride<1000");
        d.end(9);
        c.due("'pride<100'0", d.sentence(), 1);
        c.due("below 100", d.said(-1), 3);
        Checks.tape(d, "proud ;");
        d.end(6);
        c.due("'proud ';", d.sentence(), 1);
        Checks.tape(d, "week 1;week 2;");
        d.end(7);
        c.due("'week 1;'week 2;", d.book(1), -1);
        c.due("one LINE", d.told(1), 1);
        Checks.tape(d, "man a 12;");
        d.end(7);
        c.due("'man a 1'2;", d.duchy(), -1 - 7);
        Checks.tape(d, "man a 1;man b 2;");
        d.end(8);
        c.due("'man a 1;'man b 2;", d.duchy(), 1);
        d.end(0);
        d.feed(0, 0, 0, 0, 0);
        d.end(0);
        c.due("nothing of 20 bytes", d.duchy(), 0);
    }

    /** «at most 900 bytes», «400», «200»: 1 «the most bytes told, if there are more and no FAULT is ahead» */
    private static void mostBytes() {
        duchy("man a 1;" + Checks.blanks(892), 1);
        duchy(Checks.blanks(892) + "man a 1;", 1);
        duchy(Checks.blanks(900), 0);
        badDuchyAt(900, Checks.blanks(901), 1);
        badDuchyAt(900, "man a 1;" + Checks.blanks(893), 1);
        badDuchyAt(900, Checks.blanks(892) + "man a 1;;", 1);
        badDuchyAt(900, Checks.blanks(893) + "man a 1;", 1);
        badDuchyAt(900, Checks.blanks(940), 1);
        badDuchyAt(6, "man a 100;" + Checks.blanks(930), 2);
        badDuchyAt(899, Checks.blanks(899) + ";" + Checks.blanks(5), 1);
        badDuchyAt(900, "man a 1" + Checks.blanks(893), 1);
        badDuchyAt(900, "man a 1" + Checks.blanks(894), 1);
        badDuchyAt(900, "good g 50" + Checks.blanks(900), 1);
        MerryDuchy fresh = new MerryDuchy();
        c.due("a new object's first text, all blanks", Checks.duchy(fresh, Checks.blanks(901)), -901);
        book("week 1;" + Checks.blanks(393), -1, 1);
        book(Checks.blanks(393) + "week 1;", -1, 1);
        badBookAt(400, "week 1;" + Checks.blanks(394), 1);
        badBookAt(400, Checks.blanks(394) + "week 1;", 1);
        badBookAt(400, Checks.blanks(401), 1);
        badBookAt(5, "week 61;" + Checks.blanks(400), 2);
        sentence("proud" + Checks.blanks(195), 1);
        sentence(Checks.blanks(195) + "proud", 1);
        badSentenceAt(200, "proud" + Checks.blanks(196), 1);
        badSentenceAt(200, Checks.blanks(196) + "proud", 1);
        badSentenceAt(200, Checks.blanks(201), 1);
        badSentenceAt(4, "has ann" + Checks.blanks(200), 3);
    }

    /** «TOKENS that begin ahead of it are read whole» */
    private static void beginAheadOfIt() {
        badDuchyAt(900, Checks.blanks(898) + "man a 1;", 1);
        badDuchyAt(898, Checks.blanks(898) + "mann a 1;", 1);
        badDuchyAt(899, Checks.blanks(895) + "man abcdefgh 1;", 1);
        badDuchyAt(900, Checks.blanks(895) + "man abcdefg 1;", 1);
        badDuchyAt(899, Checks.blanks(893) + "man a 100;", 2);
        badDuchyAt(899, Checks.blanks(893) + "man a 1000;", 1);
        badDuchyAt(900, Checks.blanks(893) + "man a 99;", 1);
        badDuchyAt(900, Checks.blanks(894) + "man a 100;", 1);
        badBookAt(399, Checks.blanks(399) + "zed does jig;", 3);
        badBookAt(400, Checks.blanks(399) + "ann does jig;", 1);
        badBookAt(399, Checks.blanks(394) + "week 61;", 2);
        badBookAt(400, Checks.blanks(394) + "week 60;", 1);
        badSentenceAt(200, Checks.blanks(199) + "proud", 1);
        badSentenceAt(199, Checks.blanks(199) + "prouder", 1);
        badSentenceAt(199, Checks.blanks(195) + "has cat", 3);
        badSentenceAt(200, Checks.blanks(195) + "has hat", 1);
    }

    /** Promise 5: «of the latest duchy(), book() or sentence() (a book() of -1000 leaves it); 0 without one and ahead of any» */
    private static void faultOfTheLatest() {
        MerryDuchy d = new MerryDuchy();
        c.due("ahead of any", d.fault(), 0);
        d.fits();
        c.due("fits() has none", d.fault(), 0);
        Checks.duchy(d, "man a 100;");
        c.due("of duchy()", d.fault(), 2);
        Checks.book(d, "week 1;", 7);
        c.due("left by -1000", d.fault(), 2);
        d.book(0);
        c.due("0 by the same tape", d.fault(), 0);
        Checks.book(d, "zed does jig;", 0);
        c.due("of book()", d.fault(), 3);
        Checks.sentence(d, "proud");
        c.due("0 by sentence()", d.fault(), 0);
        Checks.sentence(d, "not ".repeat(9));
        c.due("of sentence()", d.fault(), 4);
        Checks.tape(d, 0, 1);
        d.fits();
        d.restore(0);
        d.undo();
        c.due("left by other calls", d.fault(), 4);
        Checks.duchy(d, "");
        c.due("0 by duchy()", d.fault(), 0);
    }
}
