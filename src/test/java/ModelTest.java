import java.util.Random;

/** Runs of 512 calls at most, drawn from fixed seeds, each call asked of the program and of the model. */
public final class ModelTest {
    private static final String[] KINDS = {"source", "where", "plus", "times", "rekey", "window", "ever", "sum", "count",
        "max", "last", "join", "less", "join", "sum", "source"};
    private static final int RUNS = 1500;

    private final Random random;
    private final int seed;
    private final TableStreams x = new TableStreams();
    private final Model y = new Model();
    private final int keys;
    private final int times;
    private int calls;
    private StringBuilder names = new StringBuilder();

    private ModelTest(int seed) {
        this.seed = seed;
        random = new Random(seed);
        keys = random.nextBoolean() ? 32 : 1 + random.nextInt(6);
        times = random.nextBoolean() ? 10001 : 1 + random.nextInt(60);
    }

    public static void main(String[] args) {
        for (int seed = 0; seed < RUNS; seed++) {
            new ModelTest(seed).run();
        }
        Check.finish();
    }

    private void run() {
        while (calls < 440) {
            step();
        }
        look();
    }

    private void due(String call, int got, int want) {
        calls++;
        Check.due("seed " + seed + ", call " + calls + ": " + call, got, want);
    }

    private void step() {
        int what = random.nextInt(100);
        if (calls < 60 ? what < 70 : what < 25) {
            tell();
        } else if (what < 30) {
            tables();
        } else if (what < 32) {
            int n = odd(-1, 40);
            due("late(" + n + ")", x.late(n), y.late(n));
        } else if (what < 50) {
            int n = random.nextInt(3) > 0 ? odd(0, 8) : odd(0, 150);
            due("read(" + n + ")", x.read(n), y.read(n));
        } else if (what < 56) {
            due("mark()", x.mark(), y.mark());
        } else if (what < 60) {
            due("fall()", x.fall(), y.fall());
        } else if (what < 67) {
            int h = odd(0, 7);
            boolean is = random.nextInt(3) > 0;
            due("host(" + h + ", " + is + ")", x.host(h, is), y.host(h, is));
        } else if (what < 70) {
            int h = odd(0, 7);
            due("owns(" + h + ")", x.owns(h), y.owns(h));
        } else if (what < 73) {
            int key = odd(0, 31);
            due("owner(" + key + ")", x.owner(key), y.owner(key));
        } else if (what < 78) {
            int n = odd(0, 8);
            due("count(" + n + ")", x.count(n), y.count(n));
        } else if (what < 82) {
            due("status()", x.status(), y.status());
        } else if (what < 94) {
            int table = odd(0, Math.max(0, y.count(3) - 1));
            int i = odd(0, Math.max(0, y.rows(table) - 1));
            int part = odd(0, 2);
            due("row(" + table + ", " + i + ", " + part + ")", x.row(table, i, part), y.row(table, i, part));
            due("rows(" + table + ")", x.rows(table), y.rows(table));
        } else {
            int i = odd(-1, Math.max(0, y.out(-1, 0) - 1));
            int part = odd(0, 3);
            due("out(" + i + ", " + part + ")", x.out(i, part), y.out(i, part));
        }
    }

    /** A number of a range, seldom one beyond it. */
    private int odd(int least, int most) {
        int[] odds = {least - 1, most + 1, Integer.MIN_VALUE, Integer.MAX_VALUE, -1, least, most};
        return random.nextInt(25) == 0 ? odds[random.nextInt(odds.length)] : least + random.nextInt(most - least + 1);
    }

    private void tell() {
        int source = random.nextInt(60) == 0 ? odd(0, 2) : random.nextInt(3) % 2;
        int key = random.nextInt(60) == 0 ? odd(0, 31) : random.nextInt(keys);
        int value = random.nextInt(4) > 0 ? random.nextInt(7) - 3 : odd(-1000, 1000);
        int time = random.nextInt(60) == 0 ? odd(0, 10000) : random.nextInt(times);
        due("tell(" + source + ", " + key + ", " + value + ", " + time + ")",
            x.tell(source, key, value, time), y.tell(source, key, value, time));
    }

    private void tables() {
        StringBuilder text = text();
        if (random.nextInt(3) == 0) {
            spoil(text);
        }
        for (int at = 0; at < text.length(); at += 20) {
            int[] n = new int[5];
            for (int i = 0; i < 20; i++) {
                int c = at + i < text.length() ? text.charAt(at + i) & 255 : random.nextInt(256);
                n[i / 4] = n[i / 4] << 8 | c;
            }
            due("feed", x.feed(n[0], n[1], n[2], n[3], n[4]), y.feed(n));
        }
        due("end(" + text.length() + ")", x.end(text.length()), y.end(text.length()));
        due("tables() of " + text, x.tables(), y.tables());
        due("fault() of " + text, x.fault(), y.fault());
    }

    private StringBuilder text() {
        StringBuilder text = new StringBuilder();
        names = new StringBuilder();
        int n = 1 + random.nextInt(random.nextInt(8) == 0 ? 14 : 8);
        for (int t = 0; t < n; t++) {
            char name = (char) ('a' + random.nextInt(26));
            if (names.indexOf(String.valueOf(name)) >= 0 && random.nextInt(40) > 0) {
                continue;
            }
            text.append(text.length() == 0 ? "" : ";").append(name).append(random.nextInt(9) == 0 ? " =  " : "=");
            making(text);
            names.append(name);
        }
        return text;
    }

    private void making(StringBuilder text) {
        String kind = names.length() == 0 ? "source" : KINDS[random.nextInt(KINDS.length)];
        text.append(kind).append(' ');
        switch (kind) {
            case "source" -> text.append(random.nextInt(30) == 0 ? 3 : random.nextInt(3) % 2);
            case "where" -> {
                String column = new String[] {"key", "value", "time"}[random.nextInt(3)];
                text.append(name()).append(' ').append(column).append("<>=".charAt(random.nextInt(3))).append(number());
            }
            case "plus", "times" -> text.append(name()).append(number());
            case "rekey" -> text.append(name()).append(random.nextInt(random.nextInt(30) == 0 ? 40 : 32));
            case "window" -> text.append(name()).append(random.nextInt(random.nextInt(30) == 0 ? 1100 : 30));
            case "join", "less" -> text.append(name()).append(' ').append(name());
            default -> text.append(name());
        }
    }

    private char name() {
        return random.nextInt(60) == 0 ? (char) ('a' + random.nextInt(26)) : names.charAt(random.nextInt(names.length()));
    }

    private String number() {
        int n = random.nextInt(3) > 0 ? random.nextInt(12) : random.nextInt(random.nextInt(30) == 0 ? 1100 : 1001);
        return (random.nextInt(3) == 0 ? random.nextBoolean() ? "-" : " - " : "") + n;
    }

    private void spoil(StringBuilder text) {
        int at = random.nextInt(text.length());
        switch (random.nextInt(5)) {
            case 0 -> text.deleteCharAt(at);
            case 1 -> text.setLength(at);
            case 2 -> text.insert(at, ' ');
            case 3 -> text.insert(at, (char) random.nextInt(256));
            default -> text.setCharAt(at, "abz019;=- <>".charAt(random.nextInt(12)));
        }
    }

    /** All that can be seen at the end, beyond the calls that a run may have: an answer that only looks changes nothing. */
    private void look() {
        for (int what = -1; what <= 9; what++) {
            due("count(" + what + ")", x.count(what), y.count(what));
        }
        for (int t = 0; t < y.count(3); t++) {
            for (int i = 0; i < y.rows(t); i++) {
                for (int part = 0; part < 3; part++) {
                    due("row(" + t + ", " + i + ", " + part + ")", x.row(t, i, part), y.row(t, i, part));
                }
            }
        }
        for (int i = 0; i < y.out(-1, 0); i++) {
            for (int part = 0; part < 4; part++) {
                due("out(" + i + ", " + part + ")", x.out(i, part), y.out(i, part));
            }
        }
    }
}
