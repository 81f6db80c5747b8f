/** What the tests share: counting wrong answers, and putting a text on the tape. */
final class Check {
    private static int wrong = 0;
    private static int asked = 0;

    private Check() {
    }

    static void due(String call, long got, long want) {
        asked++;
        if (got != want) {
            wrong++;
            System.out.println(call + " answered " + got + ", due is " + want);
        }
    }

    static void finish() {
        System.out.println(asked + " answers, of which " + wrong + " are not as due");
        if (wrong != 0 || asked == 0) {
            System.exit(1);
        }
    }

    /** Puts a text on an empty tape and makes tables of it. */
    static int make(TableStreams x, String text) {
        put(x, text);
        return x.tables();
    }

    static void put(TableStreams x, String text) {
        for (int at = 0; at < text.length(); at += 20) {
            int[] n = new int[5];
            for (int i = 0; i < 20; i++) {
                int c = at + i < text.length() ? text.charAt(at + i) & 255 : ' ';
                n[i / 4] = n[i / 4] << 8 | c;
            }
            x.feed(n[0], n[1], n[2], n[3], n[4]);
        }
        x.end(text.length());
    }

    /** The rows of a table, as key:value@time, in their order. */
    static String rows(TableStreams x, int table) {
        StringBuilder s = new StringBuilder();
        for (int i = 0; i < x.rows(table); i++) {
            s.append(i == 0 ? "" : " ").append(x.row(table, i, 0)).append(':').append(x.row(table, i, 1));
            s.append('@').append(x.row(table, i, 2));
        }
        return s.toString();
    }

    /** The changes that are out, as +key:value@time or -key:value@time. */
    static String outs(TableStreams x) {
        StringBuilder s = new StringBuilder();
        for (int i = 0; i < x.out(-1, 0); i++) {
            s.append(i == 0 ? "" : " ").append(x.out(i, 3) == 1 ? '+' : x.out(i, 3) == -1 ? '-' : '?');
            s.append(x.out(i, 0)).append(':').append(x.out(i, 1)).append('@').append(x.out(i, 2));
        }
        return s.toString();
    }

    static void due(String call, String got, String want) {
        asked++;
        if (!got.equals(want)) {
            wrong++;
            System.out.println(call + " answered \"" + got + "\", due is \"" + want + "\"");
        }
    }
}
