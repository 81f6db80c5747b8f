/**
 * One object under test, for one sentence of the document. The answer that is due comes last in each call here. A run
 * keeps to the 512 calls that an object is used for.
 */
final class Run {
    static final int UNSAID = -2_000_000_000;
    private static final int MOST_CALLS = 512;

    private final String sentence;
    private final TableStreams x = new TableStreams();
    private int calls;

    Run(String sentence) {
        this.sentence = sentence;
    }

    int calls() {
        return calls;
    }

    private void due(String call, int got, int want) {
        ask(got);
        Check.due(sentence + ": call " + calls + ", " + call, got, want);
    }

    /** An answer that is looked at later; what it takes is counted here, too. */
    private int ask(int answer) {
        calls++;
        if (calls > MOST_CALLS) {
            Check.due(sentence + ": calls", calls, MOST_CALLS);
        }
        return answer;
    }

    Run tell(int source, int key, int value, int time, int want) {
        due("tell(" + source + ", " + key + ", " + value + ", " + time + ")", x.tell(source, key, value, time), want);
        return this;
    }

    /** The same row of a source so many times; each is due to be taken. */
    Run tells(int times, int source, int key, int value, int time) {
        int had = ask(x.count(0));
        for (int i = 1; i <= times; i++) {
            tell(source, key, value, time, had + i);
        }
        return this;
    }

    Run feed(int a, int b, int c, int d, int e, int want) {
        due("feed(" + a + ", " + b + ", " + c + ", " + d + ", " + e + ")", x.feed(a, b, c, d, e), want);
        return this;
    }

    Run end(int n, int want) {
        due("end(" + n + ")", x.end(n), want);
        return this;
    }

    /** Puts a text on the tape, behind what it has already. */
    Run put(String text) {
        int had = ask(x.count(6));
        for (int at = 0; at < text.length(); at += 20) {
            int[] n = new int[5];
            for (int i = 0; i < 20; i++) {
                int c = at + i < text.length() ? text.charAt(at + i) & 255 : '?';
                n[i / 4] = n[i / 4] << 8 | c;
            }
            feed(n[0], n[1], n[2], n[3], n[4], had + at + 20);
        }
        return end(had + text.length(), had + text.length());
    }

    Run tables(int want) {
        due("tables()", x.tables(), want);
        return this;
    }

    /** Tables of a text, which is due to be taken. */
    Run make(String text, int want) {
        put(text);
        due("tables() of \"" + text + "\"", x.tables(), want);
        return status(0).fault(-1);
    }

    Run fault(int want) {
        due("fault()", x.fault(), want);
        return this;
    }

    Run late(int lateness, int want) {
        due("late(" + lateness + ")", x.late(lateness), want);
        return this;
    }

    Run read(int n, int want) {
        due("read(" + n + ")", x.read(n), want);
        return this;
    }

    Run mark(int want) {
        due("mark()", x.mark(), want);
        return this;
    }

    Run fall(int want) {
        due("fall()", x.fall(), want);
        return this;
    }

    Run rows(int table, int want) {
        due("rows(" + table + ")", x.rows(table), want);
        return this;
    }

    Run row(int table, int i, int what, int want) {
        due("row(" + table + ", " + i + ", " + what + ")", x.row(table, i, what), want);
        return this;
    }

    Run out(int i, int what, int want) {
        due("out(" + i + ", " + what + ")", x.out(i, what), want);
        return this;
    }

    Run host(int h, boolean is, int want) {
        due("host(" + h + ", " + is + ")", x.host(h, is), want);
        return this;
    }

    Run owner(int key, int want) {
        due("owner(" + key + ")", x.owner(key), want);
        return this;
    }

    Run owns(int h, int want) {
        due("owns(" + h + ")", x.owns(h), want);
        return this;
    }

    Run count(int what, int want) {
        due("count(" + what + ")", x.count(what), want);
        return this;
    }

    int[] counts() {
        int[] counts = new int[9];
        for (int what = 0; what < counts.length; what++) {
            counts[what] = ask(x.count(what));
        }
        return counts;
    }

    Run status(int want) {
        due("status()", x.status(), want);
        return this;
    }

    /** All rows of a table, as key:value@time, in their order. */
    Run table(int table, String want) {
        Check.due(sentence + ": behind call " + calls + ", table " + table, rowsSeen(table), want);
        return this;
    }

    /** All changes that are out, as +key:value@time or -key:value@time. */
    Run outs(String want) {
        Check.due(sentence + ": behind call " + calls + ", what is out", outsSeen(), want);
        return this;
    }

    private String rowsSeen(int table) {
        StringBuilder s = new StringBuilder();
        int rows = ask(x.rows(table));
        for (int i = 0; i < rows; i++) {
            s.append(i == 0 ? "" : " ").append(ask(x.row(table, i, 0))).append(':').append(ask(x.row(table, i, 1)));
            s.append('@').append(ask(x.row(table, i, 2)));
        }
        return s.toString();
    }

    private String outsSeen() {
        StringBuilder s = new StringBuilder();
        int outs = ask(x.out(-1, 0));
        for (int i = 0; i < outs; i++) {
            int newness = ask(x.out(i, 3));
            s.append(i == 0 ? "" : " ").append(newness == 1 ? '+' : newness == -1 ? '-' : '?');
            s.append(ask(x.out(i, 0))).append(':').append(ask(x.out(i, 1))).append('@').append(ask(x.out(i, 2)));
        }
        return s.toString();
    }

    /** All that can be seen by calls that change nothing, but for status() and fault(). */
    String seen() {
        StringBuilder s = new StringBuilder("counts");
        for (int n : counts()) {
            s.append(' ').append(n);
        }
        s.append(", owned");
        for (int h = 0; h <= 7; h++) {
            s.append(' ').append(ask(x.owns(h)));
        }
        int tables = ask(x.count(3));
        for (int t = 0; t < tables; t++) {
            s.append(", table ").append(rowsSeen(t));
        }
        return s.append(", out ").append(outsSeen()).toString();
    }

    Run sees(String want) {
        Check.due(sentence + ": behind call " + calls + ", all that is seen", seen(), want);
        return this;
    }
}
