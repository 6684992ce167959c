/** Promises 4 and 5: duchy with every FAULT, fault. */
public final class DuchyTest {
    private static final Checks c = new Checks();

    private static void faulty(String text, int place, int kind) {
        MerryDuchy d = Checks.of("man old 7;");
        d.weeks(3);
        c.due("duchy '" + text + "'", Checks.duchy(d, text), -1 - place);
        c.due("fault of '" + text + "'", d.fault(), kind);
        c.due("the DUCHY stays", d.man(0, 1), 7);
        c.due("the WEEK stays", d.now(0), 3);
        c.due("the tape is empty", d.count(5), 0);
        c.due("what was done can be undone", d.undo(), 0);
    }

    /** A FAULT at the bar. */
    private static void at(String text, int kind) {
        faulty(text.replace("|", ""), text.indexOf('|'), kind);
    }

    private static MerryDuchy right(String text, int lines) {
        MerryDuchy d = new MerryDuchy();
        c.due("duchy '" + text + "'", Checks.duchy(d, text), lines);
        c.due("fault of '" + text + "'", d.fault(), 0);
        return d;
    }

    public static void main(String[] args) {
        rightOnes();
        cantCome();
        notAsTold();
        names();
        tooMany();
        tooLong();
        newDuchy();
        c.end("DuchyTest");
    }

    private static void rightOnes() {
        right("", 0);
        right(" \n \n", 0);
        right("man a 0;", 1);
        right("man\na\n99\n;\n", 1);
        right("man abcdefg 007;", 1);
        right("wears 0;mends 9;", 2);
        MerryDuchy d = right("man a 1;man b 2;forfeit f 20;minds a f 0;minds b f 20;forfeit g 0;minds a g 3;"
                + "good x 1 0;good y 99 20;owes a b 1;owes b a 99;wears 9;mends 0;", 13);
        c.due("cost(0,0)", d.cost(0, 0), 0);
        c.due("cost(1,0)", d.cost(1, 0), 20);
        c.due("cost(0,1)", d.cost(0, 1), 3);
        c.due("cost(1,1)", d.cost(1, 1), 0);
        c.due("good(1,0)", d.good(1, 0), 99);
        c.due("good(1,1)", d.good(1, 1), 20);
        c.due("owes(1,0)", d.owes(1, 0), 99);
        c.due("wears", d.count(3), 9);
        c.due("mends", d.count(4), 0);
        d = right("forfeit f 5;man a 1;minds a f 2;man b 3;", 4);
        c.due("a man told behind the forfeit minds its BITE", d.cost(1, 0), 5);
        c.due("one who minds less", d.cost(0, 0), 2);
        right("man a 1;man b 2;man cc 3;man d 4;man e 5;man f 6;forfeit g 1;forfeit h 1;forfeit i 1;forfeit j 1;"
                + "forfeit k 1;forfeit l 1;good m 1 1;good n 1 1;good o 1 1;good p 1 1;good q 1 1;good r 1 1;", 18);
    }

    private static void cantCome() {
        at("|.", 1);
        at("|;", 1);
        at("|a 1;", 1);
        at("|12;", 1);
        at("|Man a 1;", 1);
        at("man ", 1, 4);
        at("man a |;", 1);
        at("man a |b;", 1);
        at("man |1 a;", 1);
        at("man |abcdefgh 1;", 1);
        at("man |a1 1;", 1);
        at("man a |1a;", 1);
        at("man a |1000;", 1);
        at("man a |-1;", 1);
        at("man a 1|", 1);
        at("man a 1  ", 1, 9);
        at("man a 1 |man b 2;", 1);
        at("man a 1;|;", 1);
        at("man a 1;|\t", 1);
        at("man a |\u00e9;", 1);
        at("good g 1 |;", 1);
        at("good g |;", 1);
        at("minds |;", 1);
        at("wears |a;", 1);
        at("mends |;", 1);
        at("|does;", 1);
        at("|week 1;", 1);
        at("|strike;", 1);
        at("man a 1;man b 2;owes a b |;", 1);
        at("man a 1;man b 2;owes a |3;", 1);
        for (String word : ("man forfeit minds good owes wears mends does buys lends repays strike week or and not proud "
                + "owing has did pride credit debts number").split(" ")) {
            at("man |" + word + " 1;", 1);
            at("good |" + word + " 1 1;", 1);
            at("man a 1;minds |" + word + " 1;", 1);
        }
        right("man mans 1;forfeit does2".replace("2", "x") + " 1;", 2);
    }

    /** A FAULT of a text without a bar, at a place told as a number. */
    private static void at(String text, int kind, int place) {
        faulty(text.replace("|", ""), place, kind);
    }

    private static void notAsTold() {
        at("man a |100;", 2);
        at("forfeit f |21;", 2);
        at("good g |0 1;", 2);
        at("good g |100 1;", 2);
        at("good g 1 |21;", 2);
        at("wears |10;", 2);
        at("mends |10;", 2);
        at("man a 1;forfeit f 1;minds a f |21;", 2);
        at("man a 1;man b 1;owes a b |0;", 2);
        at("man a 1;man b 1;owes a b |100;", 2);
        at("man a |100 b;", 2);
    }

    private static void names() {
        at("man a 1;man |a 1;", 3);
        at("man a 1;forfeit |a 1;", 3);
        at("forfeit a 1;good |a 1 1;", 3);
        at("minds |a b 1;man a 1;", 3);
        at("man a 1;minds a |b 1;", 3);
        at("man a 1;minds a |a 1;", 3);
        at("forfeit f 1;minds |f f 1;", 3);
        at("good g 1 1;man a 1;owes a |g 1;", 3);
        at("man a 1;owes a |a 1;", 3);
        at("man a 1;owes a |b 1;", 3);
        at("man a 1;man b 1;owes a b 1;owes a |b 1;", 3);
        right("man a 1;man b 1;owes a b 1;owes b a 1;", 4);
        at("man a 1;forfeit f 1;minds a f 1;minds a |f 1;", 3);
        at("man a 1;forfeit f 1;minds a f 0;minds a |f 21;", 3);
        at("wears 1;|wears 1;", 3);
        at("mends 0;wears 1;|mends ;", 3);
    }

    private static void tooMany() {
        StringBuilder men = new StringBuilder();
        StringBuilder forfeits = new StringBuilder();
        StringBuilder goods = new StringBuilder();
        for (char n = 'a'; n <= 'f'; n++) {
            men.append("man m").append(n).append(" 1;");
            forfeits.append("forfeit f").append(n).append(" 1;");
            goods.append("good g").append(n).append(" 1 1;");
        }
        at(men + "|man x 1;", 4);
        at(men + "|man", 4);
        at(men + "|man ma 100;", 4);
        at(forfeits + "|forfeit x 1;", 4);
        at(goods + "|good x 1 1;", 4);
        at(goods + "good|", 4, goods.length());
        right(men.toString() + forfeits + goods, 18);
    }

    private static void tooLong() {
        String text = "man a 1;";
        right(text + Checks.blanks(892), 1);
        faulty(text + Checks.blanks(893), 900, 1);
        faulty(Checks.blanks(901), 900, 1);
        faulty(Checks.blanks(940), 900, 1);
        faulty(Checks.blanks(895) + "man a 1;", 900, 1);
        faulty(Checks.blanks(895) + "man a", 900, 1);
        faulty(Checks.blanks(892) + "man a 1;;", 900, 1);
        faulty(Checks.blanks(892) + "man a 1 ;", 900, 1);
        faulty(Checks.blanks(893) + "man aaaaaaaa", 897, 1);
        faulty(Checks.blanks(893) + "man aaaaaaa", 900, 1);
        faulty(Checks.blanks(891) + "man a 9999;", 897, 1);
        faulty(Checks.blanks(892) + "man a 999;", 898, 2);
        faulty(Checks.blanks(900) + "x", 900, 1);
        faulty(Checks.blanks(899) + "x", 899, 1);
        faulty(Checks.blanks(899) + ";" + Checks.blanks(20), 899, 1);
        faulty(Checks.blanks(898) + "man", 900, 1);
        faulty("man a 1" + Checks.blanks(893), 900, 1);
        faulty(Checks.blanks(894) + "man a 100;", 900, 1);
        faulty(Checks.blanks(893) + "man a 100;", 899, 2);
        faulty("man a 1;" + Checks.blanks(888) + "man a 1;", 900, 1);
    }

    private static void newDuchy() {
        MerryDuchy d = Checks.of("man a 9;forfeit f 2;good g 1 3;wears 4;mends 5;");
        d.forfeit(0, 0);
        d.buy(0, 0);
        d.weeks(2);
        Checks.sentence(d, "proud");
        c.due("there is a SENTENCE", d.said(-1), 1);
        c.due("the same again", Checks.duchy(d, "man a 9;forfeit f 2;good g 1 3;"), 3);
        c.due("WEEK", d.now(0), 0);
        c.due("PRIDE", d.man(0, 0), 9);
        c.due("CREDIT", d.man(0, 2), 0);
        c.due("done", d.man(0, 6), 0);
        c.due("paid", d.man(0, 7), 0);
        c.due("bought", d.bought(0, 0), 0);
        c.due("STOCK", d.good(0, 1), 3);
        c.due("wears", d.count(3), 1);
        c.due("mends", d.count(4), 1);
        c.due("no SENTENCE", d.said(-1), -1);
        c.due("nothing to undo", d.undo(), -1);
        Checks.duchy(d, "x");
        c.due("fault", d.fault(), 1);
        Checks.duchy(d, "");
        c.due("no fault", d.fault(), 0);
        c.due("no men", d.count(0), 0);
        Checks.duchy(d, "man a 1;forfeit f 1;");
        c.due("minds are told anew", d.cost(0, 0), 1);
        Checks.duchy(d, "man a 5;man b 6;man e 7;forfeit f 1;good x 3 4;good y 5 6;owes a b 1;owes b a 2;owes e a 3;");
        c.due("all PRIDE", d.now(1), 18);
        Checks.duchy(d, "man a 1;man b 2;");
        c.due("all PRIDE of the new one", d.now(1), 3);
        c.due("no debts", d.now(3), 0);
        c.due("owes nothing", d.owes(0, 1), 0);
        c.due("no ring", d.ring(), -1);
        Checks.duchy(d, "man a 1;man b 2;owes a b 7");
        Checks.duchy(d, "man a 1;man b 2;owes a b 8;");
        c.due("nothing of a DUCHY with a FAULT is left", d.owes(0, 1), 8);
    }
}
