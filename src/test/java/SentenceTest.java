/** Promises 39 and 40: sentence, said. */
public final class SentenceTest {
    private static final Checks c = new Checks();
    private static final String DUCHY = "man a 30;man b 20;man e 4;man g 0;forfeit f 5;forfeit h 2;good x 4 9;good y 2 9;"
            + "owes a b 5;owes b e 3;owes a e 9;wears 1;mends 1;";

    /** a: PRIDE 25, CREDIT 1, has x, did f; b: PRIDE 13, CREDIT 6, did f and h; e owes b 1, has PRIDE as g has. */
    private static MerryDuchy lived() {
        MerryDuchy d = Checks.of(DUCHY);
        d.forfeit(0, 0);
        d.forfeit(1, 0);
        d.forfeit(1, 1);
        d.buy(0, 0);
        d.lend(1, 2, 1);
        return d;
    }

    private static void said(String text, int ones, int... men) {
        MerryDuchy d = lived();
        c.due("sentence '" + text + "'", Checks.sentence(d, text), ones);
        c.due("fault", d.fault(), 0);
        c.due("the tape is empty", d.count(5), 0);
        c.due("how many of '" + text + "'", d.said(-1), men.length);
        for (int k = 0; k < men.length; k++) {
            c.due("said(" + k + ") of '" + text + "'", d.said(k), men[k]);
        }
        c.due("said behind them", d.said(men.length), -1);
        c.due("said(-2)", d.said(-2), -1);
        c.due("said(MIN)", d.said(Integer.MIN_VALUE), -1);
        c.due("said(MAX)", d.said(Integer.MAX_VALUE), -1);
    }

    private static void at(String marked, int kind) {
        faulty(marked.replace("|", ""), marked.indexOf('|'), kind);
    }

    private static void faulty(String text, int place, int kind) {
        MerryDuchy d = lived();
        c.due("sentence '" + text + "'", Checks.sentence(d, text), -1 - place);
        c.due("fault of '" + text + "'", d.fault(), kind);
        c.due("no SENTENCE yet", d.said(-1), -1);
        Checks.sentence(d, "number=2");
        Checks.sentence(d, text);
        c.due("the old one stays", d.said(0), 2);
    }

    public static void main(String[] args) {
        plainOnes();
        joined();
        faults();
        limits();
        MerryDuchy d = new MerryDuchy();
        c.due("none", d.said(-1), -1);
        c.due("none", d.said(0), -1);
        c.due("of nobody", Checks.sentence(d, "not proud"), 2);
        c.due("how many", d.said(-1), 0);
        c.due("which", d.said(0), -1);
        MerryDuchy six = Checks.of("man a 9;man b 9;man e 9;man g 9;man h 9;man i 9;owes a i 1;owes b h 1;owes i g 1;");
        int[] owing = {-1, -1, -1, 5, 1, 0};
        String names = "abeghi";
        for (int k = 0; k < 6; k++) {
            Checks.sentence(six, "owing " + names.charAt(k));
            c.due("owing " + names.charAt(k), six.said(0), owing[k]);
        }
        Checks.sentence(six, "number>0");
        c.due("the last one", six.said(4), 5);
        c.due("behind the last", six.said(5), -1);
        MerryDuchy moves = Checks.of(DUCHY);
        Checks.sentence(moves, "did f");
        c.due("nobody yet", moves.said(-1), 0);
        moves.forfeit(1, 0);
        c.due("by now", moves.said(0), 1);
        moves.undo();
        c.due("undone", moves.said(-1), 0);
        c.end("SentenceTest");
    }

    private static void plainOnes() {
        said("proud", 1, 2, 3);
        said("owing b", 1, 0, 2);
        said("owing e", 1, 0, 1);
        said("owing a", 1);
        said("has x", 1, 0);
        said("has y", 1);
        said("did f", 1, 0, 1);
        said("did h", 1, 1);
        said("pride>13", 1, 0);
        said("pride = 13", 1, 1);
        said("pride<13", 1, 2, 3);
        said("credit>0", 1, 0, 1, 2);
        said("credit=6", 1, 1);
        said("credit<6", 1, 0, 2, 3);
        said("debts>3", 1, 0);
        said("debts=14", 1, 0);
        said("debts=1", 1, 2);
        said("debts<1", 1, 3);
        said("number<2", 1, 0, 1);
        said("number=002", 1, 2);
        said("number>999", 1);
        said("\n number \n>\n2 ", 1, 3);
    }

    private static void joined() {
        said("not proud", 2, 0, 1);
        said("not not proud", 3, 2, 3);
        said("(proud)", 2, 2, 3);
        said("proud or has x", 2, 0, 2, 3);
        said("proud and number>2", 2, 3);
        said("number=0 or number=1 and number=2", 3, 0);
        said("number=1 and number=2 or number=0", 3, 0);
        said("(number=0 or number=1)and number=1", 4, 1);
        said("number=0 or number=1 or number=3", 3, 0, 1, 3);
        said("number=0 or number<2 and number>0 or number=3 and proud", 5, 0, 1, 3);
        said("not number=0 and number<2", 3, 1);
        said("not(number=0 or number=1)", 4, 2, 3);
        said("not number=0 or number=0", 3, 0, 1, 2, 3);
        said("((number=0)and(number<9 or proud))or(((number=3)))", 10, 0, 3);
        said("number<3 and number>0 and number=1", 3, 1);
    }

    private static void faults() {
        faulty("", 0, 1);
        faulty("  ", 2, 1);
        at("|and proud", 1);
        at("|or", 1);
        at("proud |proud", 1);
        at("proud |;", 1);
        at("proud |)", 1);
        at("(proud|", 1);
        at("( proud |;", 1);
        at("(|)", 1);
        at("not|", 1);
        at("not |and", 1);
        at("proud and|", 1);
        at("proud or |or", 1);
        at("pride |5", 1);
        at("pride |a", 1);
        at("pride |( 5", 1);
        at("pride |;5", 1);
        at("pride < |a", 1);
        at("pride < |1000", 1);
        at("pride <|=5", 1);
        at("pride <|", 1);
        at("owing |5", 1);
        at("owing |", 1);
        at("owing |proud", 1);
        at("|man", 1);
        at("|a", 1);
        at("|5", 1);
        at("proud |.", 1);
        at("|strike", 1);
        at("has |does", 1);
        at("owing |x", 3);
        at("owing |zz", 3);
        at("has |a", 3);
        at("has |f", 3);
        at("did |x", 3);
        at("did |zz", 3);
        at("proud and owing |f and has f", 3);
    }

    private static void limits() {
        StringBuilder twenty = new StringBuilder("proud");
        for (int i = 1; i < 20; i++) {
            twenty.append(" or proud");
        }
        // 20 ONES of this sort are 176 bytes
        said(twenty.toString(), 20, 2, 3);
        at(twenty + " or |proud", 4);
        at(twenty + " or |not", 4);
        at(twenty + " or |(", 4);
        at(twenty + " or |pride", 4);
        at(twenty + " or |and", 1);
        at(twenty + " or |", 1);
        at(twenty + " |proud", 1);
        said("(".repeat(7) + "proud" + ")".repeat(7), 8, 2, 3);
        at("(".repeat(8) + "|proud" + ")".repeat(8), 4);
        at("(".repeat(8) + "|(", 4);
        at("(".repeat(8) + "|)", 1);
        said("not ".repeat(7) + "proud", 8, 0, 1);
        at("not ".repeat(8) + "|proud", 4);
        at("not ".repeat(8) + "|not", 4);
        at("not ".repeat(8) + "|a", 1);
        at("not(".repeat(4) + "|proud))))", 4);
        said("not(not(not(not proud)))", 8, 2, 3);
        at("not(not(not(not not |proud)))", 4);
        said("not(not(not(not proud)))or not(not(not(not proud)))", 16, 2, 3);
        said("(((((((proud)and proud)and(proud and proud))))))", 12, 2, 3);
        said("proud" + Checks.blanks(195), 1, 2, 3);
        faulty("proud" + Checks.blanks(196), 200, 1);
        faulty(Checks.blanks(198) + "proud", 200, 1);
        faulty(Checks.blanks(195) + "proudx", 195, 1);
        said(Checks.blanks(195) + "proud", 1, 2, 3);
        faulty(Checks.blanks(193) + "pride<9999", 199, 1);
        faulty(Checks.blanks(193) + "pride<999", 200, 1);
        faulty(Checks.blanks(192) + "has zzzzzzz", 196, 3);
        faulty(Checks.blanks(201), 200, 1);
    }
}
