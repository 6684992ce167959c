/** Promises 1 to 3: a new object, feed, end; and of count the bytes of the tape. */
public final class TapeTest {
    public static void main(String[] args) {
        Checks c = new Checks();
        MerryDuchy d = new MerryDuchy();
        c.due("new count(5)", d.count(5), 0);
        for (int what = 0; what < 3; what++) {
            c.due("new count", d.count(what), 0);
        }
        c.due("new wears", d.count(3), 1);
        c.due("new mends", d.count(4), 1);
        c.due("new week", d.now(0), 0);
        c.due("new fault", d.fault(), 0);
        c.due("new end(0)", d.end(0), true);
        c.due("new end(1)", d.end(1), false);
        for (int i = 1; i <= 47; i++) {
            c.due("feed " + i, d.feed(i, 0, 0, 0, 0), 20 * i);
        }
        c.due("feed beyond 940", d.feed(0, 0, 0, 0, 0), -1);
        c.due("count(5) full", d.count(5), 940);
        c.due("end(941)", d.end(941), false);
        c.due("end(-1)", d.end(-1), false);
        c.due("count(5) still", d.count(5), 940);
        c.due("end(921)", d.end(921), true);
        c.due("feed at 921", d.feed(0, 0, 0, 0, 0), -1);
        c.due("count(5) of 921", d.count(5), 921);
        c.due("end(920)", d.end(920), true);
        c.due("feed at 920", d.feed(0, 0, 0, 0, 0), 940);
        c.due("end(0)", d.end(0), true);
        c.due("count(5) empty", d.count(5), 0);

        // the highest byte first, and each number in its turn
        d.feed(0x6d616e20, 0x61206263, 0x31323334, 0x35363738, 0x39303132);
        d.end(5);
        c.due("'man a' ends", d.duchy(), -1 - 5);
        c.due("the tape is empty behind duchy()", d.count(5), 0);
        d.feed(0x6d616e20, 0x78202033, 0x3b20666f, 0x72666569, 0x74207920);
        d.end(20);
        d.feed(0x353b0000, 0, 0, 0, 0);
        d.end(22);
        c.due("'man x  3; forfeit y 5;'", d.duchy(), 2);
        c.due("PRIDE", d.man(0, 1), 3);
        c.due("COST", d.cost(0, 0), 5);
        c.end("TapeTest");
    }
}
