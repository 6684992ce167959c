/** What the tests share: counting wrong answers, and putting texts on the tape. */
final class Checks {
    private int wrong = 0;
    private int asked = 0;

    void due(String call, long got, long want) {
        asked++;
        if (got != want) {
            wrong++;
            System.out.println(call + " answered " + got + ", due is " + want);
        }
    }

    void due(String call, boolean got, boolean want) {
        due(call, got ? 1 : 0, want ? 1 : 0);
    }

    void end(String name) {
        System.out.println(name + ": " + asked + " answers, " + wrong + " not as due");
        if (wrong != 0) {
            System.exit(1);
        }
    }

    static void tape(MerryDuchy d, String text) {
        byte[] bytes = new byte[text.length()];
        for (int i = 0; i < bytes.length; i++) {
            bytes[i] = (byte) text.charAt(i);
        }
        tape(d, bytes);
    }

    static void tape(MerryDuchy d, int... values) {
        byte[] bytes = new byte[values.length];
        for (int i = 0; i < bytes.length; i++) {
            bytes[i] = (byte) values[i];
        }
        tape(d, bytes);
    }

    private static void tape(MerryDuchy d, byte[] bytes) {
        d.end(0);
        int[] n = new int[5];
        for (int from = 0; from < bytes.length; from += 20) {
            for (int i = 0; i < 20; i++) {
                int b = from + i < bytes.length ? bytes[from + i] & 255 : 0;
                n[i / 4] = n[i / 4] << 8 | b;
            }
            d.feed(n[0], n[1], n[2], n[3], n[4]);
        }
        d.end(bytes.length);
    }

    static int duchy(MerryDuchy d, String text) {
        tape(d, text);
        return d.duchy();
    }

    static int book(MerryDuchy d, String text, int lives) {
        tape(d, text);
        return d.book(lives);
    }

    static int sentence(MerryDuchy d, String text) {
        tape(d, text);
        return d.sentence();
    }

    static MerryDuchy of(String text) {
        MerryDuchy d = new MerryDuchy();
        if (duchy(d, text) < 0) {
            throw new IllegalStateException("no DUCHY, fault " + d.fault() + ": " + text);
        }
        return d;
    }

    static String listed(MerryDuchy d, int m) {
        int n = d.list(m);
        StringBuilder text = new StringBuilder();
        for (int i = 0; i < n; i++) {
            text.append((char) d.byteAt(i));
        }
        return text.toString();
    }

    static String blanks(int n) {
        return " ".repeat(n);
    }
}
