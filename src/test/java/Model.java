import java.util.ArrayList;
import java.util.Arrays;
import java.util.Comparator;
import java.util.HashMap;
import java.util.List;
import java.util.Map;
import java.util.TreeMap;
import java.util.regex.Matcher;
import java.util.regex.Pattern;

/**
 * A second reading of the document, as plain as can be: every table is made anew from the log for each row.
 * It shares no thought with the program on how things are held, so that a slip in one is seen by the other.
 */
final class Model {
    private static final int UNSAID = -2_000_000_000;
    private static final Comparator<int[]> ORDER = Comparator.<int[]>comparingInt(r -> r[0])
        .thenComparingInt(r -> r[2]).thenComparingInt(r -> r[1]);
    private static final Pattern TOKEN = Pattern.compile("[a-z]+|[0-9]+|[^ ]", Pattern.DOTALL);

    private final List<int[]> log = new ArrayList<>();
    private final boolean[] hosts = {true, false, false, false, false, false, false, false};
    private String tape = "";
    private List<String[]> plan = new ArrayList<>();
    private List<List<int[]>> tables = new ArrayList<>();
    private int read;
    private int marked;
    private int lateness = -1;
    private int fault = -1;
    private int status;
    private List<int[]> waiting = new ArrayList<>();
    private List<int[]> out = new ArrayList<>();

    private int code(int answer, int status) {
        this.status = status;
        return answer;
    }

    int tell(int source, int key, int value, int time) {
        if (source < 0 || source > 2 || key < 0 || key > 31 || Math.abs((long) value) > 1000 || time < 0 || time > 10000) {
            return code(-1, -1);
        }
        if (log.size() == 150) {
            return code(-5, -5);
        }
        log.add(new int[] {key, value, time, source});
        return code(log.size(), 0);
    }

    int feed(int... numbers) {
        if (tape.length() > 280) {
            return -1;
        }
        StringBuilder s = new StringBuilder(tape);
        for (int n : numbers) {
            s.append((char) (n >>> 24)).append((char) (n >> 16 & 255)).append((char) (n >> 8 & 255)).append((char) (n & 255));
        }
        tape = s.toString();
        return tape.length();
    }

    int end(int n) {
        if (n < 0 || n > tape.length()) {
            return -1;
        }
        tape = tape.substring(0, n);
        return n;
    }

    int tables() {
        String text = tape;
        tape = "";
        List<String[]> made = new ArrayList<>();
        fault = parse(text, made);
        if (fault != -1) {
            return code(-6, -6);
        }
        plan = made;
        anew();
        return code(plan.size(), 0);
    }

    private void anew() {
        read = 0;
        marked = 0;
        waiting = new ArrayList<>();
        out = new ArrayList<>();
        tables = make(0);
    }

    /** Each making as its tokens, the names being replaced by the numbers of their tables. */
    private static int parse(String text, List<String[]> made) {
        List<String> tokens = new ArrayList<>();
        List<Integer> places = new ArrayList<>();
        Matcher m = TOKEN.matcher(text);
        while (m.find()) {
            tokens.add(m.group());
            places.add(m.start());
        }
        tokens.add("");
        places.add(text.length());
        Map<String, Integer> names = new HashMap<>();
        int at = 0;
        while (true) {
            String name = tokens.get(at);
            if (!name.matches("[a-z]") || names.containsKey(name) || made.size() == 12) {
                return places.get(at);
            }
            if (!tokens.get(++at).equals("=")) {
                return places.get(at);
            }
            String kind = tokens.get(++at);
            String form = formOf(kind);
            if (form == null) {
                return places.get(at);
            }
            at++;
            List<String> making = new ArrayList<>(List.of(kind));
            for (String part : form.split(" ")) {
                String token = tokens.get(at);
                String minus = "";
                if (part.equals("number") && token.equals("-")) {
                    minus = "-";
                    token = tokens.get(++at);
                }
                String value = partOf(part, token, names);
                if (value == null) {
                    return places.get(at);
                }
                making.add(minus + value);
                at++;
            }
            names.put(name, made.size());
            made.add(making.toArray(new String[0]));
            if (tokens.get(at).isEmpty()) {
                return -1;
            }
            if (!tokens.get(at).equals(";")) {
                return places.get(at);
            }
            at++;
        }
    }

    private static String formOf(String kind) {
        return switch (kind) {
            case "source" -> "0-2";
            case "where" -> "name column relation number";
            case "plus", "times" -> "name number";
            case "rekey" -> "name 0-31";
            case "window" -> "name 1-1000";
            case "ever", "sum", "count", "max", "last" -> "name";
            case "join", "less" -> "name name";
            default -> null;
        };
    }

    private static String partOf(String part, String token, Map<String, Integer> names) {
        switch (part) {
            case "name":
                return names.containsKey(token) ? String.valueOf(names.get(token)) : null;
            case "column":
                return token.matches("key|value|time") ? token : null;
            case "relation":
                return token.matches("[<>=]") ? token : null;
            default:
                String[] range = (part.equals("number") ? "0-1000" : part).split("-");
                if (!token.matches("[0-9]+")) {
                    return null;
                }
                java.math.BigInteger n = new java.math.BigInteger(token);
                boolean is = n.compareTo(new java.math.BigInteger(range[0])) >= 0
                    && n.compareTo(new java.math.BigInteger(range[1])) <= 0;
                return is ? n.toString() : null;
        }
    }

    private boolean isLate(int i) {
        int greatest = greatest(i);
        return lateness != -1 && greatest != -1 && log.get(i)[2] < greatest - lateness;
    }

    private int greatest(int n) {
        int greatest = -1;
        for (int[] row : log.subList(0, n)) {
            greatest = Math.max(greatest, row[2]);
        }
        return greatest;
    }

    private int lates(int n) {
        int lates = 0;
        for (int i = 0; i < n; i++) {
            lates += isLate(i) ? 1 : 0;
        }
        return lates;
    }

    /** What all tables have by the first rows of the log; null if one has too many, or a value beyond. */
    private List<List<int[]>> make(int n) {
        List<List<int[]>> made = new ArrayList<>();
        for (String[] p : plan) {
            List<long[]> rows = new ArrayList<>();
            if (p[0].equals("source")) {
                for (int i = 0; i < n; i++) {
                    int[] r = log.get(i);
                    if (r[3] == Integer.parseInt(p[1]) && !isLate(i)) {
                        rows.add(new long[] {r[0], r[1], r[2]});
                    }
                }
            } else {
                List<int[]> b = p[0].matches("join|less") ? made.get(Integer.parseInt(p[2])) : null;
                rows = makeOne(p, made.get(Integer.parseInt(p[1])), b);
            }
            List<int[]> fit = new ArrayList<>();
            for (long[] r : rows) {
                if (Math.abs(r[1]) > 1_000_000_000L) {
                    return null;
                }
                fit.add(new int[] {(int) r[0], (int) r[1], (int) r[2]});
            }
            if (fit.size() > 400) {
                return null;
            }
            fit.sort(ORDER);
            made.add(fit);
        }
        return made;
    }

    private static List<long[]> makeOne(String[] p, List<int[]> a, List<int[]> b) {
        List<long[]> rows = new ArrayList<>();
        Map<List<Integer>, List<Integer>> groups = new TreeMap<>(Comparator.comparing(List::toString));
        Map<Integer, int[]> lasts = new TreeMap<>();
        int n = p.length > 2 && p[p.length - 1].matches("-?[0-9]+") ? Integer.parseInt(p[p.length - 1]) : 0;
        for (int[] r : a) {
            groups.computeIfAbsent(List.of(r[0], r[2]), k -> new ArrayList<>()).add(r[1]);
            int[] l = lasts.get(r[0]);
            if (l == null || r[2] > l[2] || r[2] == l[2] && r[1] > l[1]) {
                lasts.put(r[0], r);
            }
            switch (p[0]) {
                case "where" -> {
                    int c = Integer.compare(r[List.of("key", "value", "time").indexOf(p[2])], n);
                    if (c == "<=>".indexOf(p[3]) - 1) {
                        rows.add(new long[] {r[0], r[1], r[2]});
                    }
                }
                case "plus" -> rows.add(new long[] {r[0], (long) r[1] + n, r[2]});
                case "times" -> rows.add(new long[] {r[0], (long) r[1] * n, r[2]});
                case "rekey" -> rows.add(new long[] {(r[0] + n) & 31, r[1], r[2]});
                case "window" -> rows.add(new long[] {r[0], r[1], r[2] / n * n});
                case "ever" -> rows.add(new long[] {r[0], r[1], 0});
                case "join" -> {
                    for (int[] q : b) {
                        if (q[0] == r[0]) {
                            rows.add(new long[] {r[0], (long) r[1] + q[1], Math.max(r[2], q[2])});
                        }
                    }
                }
                case "less" -> {
                    if (b.stream().noneMatch(q -> q[0] == r[0])) {
                        rows.add(new long[] {r[0], r[1], r[2]});
                    }
                }
                default -> { }
            }
        }
        if (p[0].matches("sum|count|max")) {
            groups.forEach((k, v) -> rows.add(new long[] {k.get(0), gathered(p[0], v), k.get(1)}));
        }
        if (p[0].equals("last")) {
            lasts.values().forEach(r -> rows.add(new long[] {r[0], r[1], r[2]}));
        }
        return rows;
    }

    private static long gathered(String kind, List<Integer> values) {
        return switch (kind) {
            case "sum" -> values.stream().mapToLong(v -> v).sum();
            case "count" -> values.size();
            default -> values.stream().mapToLong(v -> v).max().orElse(0);
        };
    }

    int fault() {
        return fault;
    }

    int late(int lateness) {
        if (lateness < -1 || lateness > 10000) {
            return code(-5, -1);
        }
        int was = this.lateness;
        this.lateness = lateness;
        anew();
        return code(was, 0);
    }

    int read(int n) {
        if (n < 0 || n > 150) {
            return code(-1, -1);
        }
        if (plan.isEmpty()) {
            return code(-6, -6);
        }
        for (int done = 0; done < n; done++) {
            if (read == log.size()) {
                return code(done, 0);
            }
            List<List<int[]>> next = make(read + 1);
            if (next == null) {
                return code(done, -5);
            }
            List<int[]> changes = new ArrayList<>(waiting);
            List<int[]> before = tables.get(tables.size() - 1);
            List<int[]> after = next.get(next.size() - 1);
            changes.addAll(missing(before, after, -1));
            changes.addAll(missing(after, before, 1));
            if (changes.size() > 4000) {
                return code(done, -5);
            }
            waiting = changes;
            tables = next;
            read++;
        }
        return code(n, 0);
    }

    private static List<int[]> missing(List<int[]> of, List<int[]> in, int sign) {
        Map<String, Integer> spare = new HashMap<>();
        for (int[] r : in) {
            spare.merge(Arrays.toString(r), 1, Integer::sum);
        }
        List<int[]> missing = new ArrayList<>();
        for (int[] r : of) {
            if (spare.merge(Arrays.toString(r), -1, Integer::sum) < 0) {
                missing.add(new int[] {r[0], r[1], r[2], sign});
            }
        }
        return missing;
    }

    int mark() {
        if (plan.isEmpty()) {
            return code(-6, -6);
        }
        if (out.size() + waiting.size() > 4000) {
            return code(-5, -5);
        }
        out.addAll(waiting);
        waiting = new ArrayList<>();
        marked = read;
        return code(out.size(), 0);
    }

    int fall() {
        if (plan.isEmpty()) {
            return code(-6, -6);
        }
        read = marked;
        tables = make(read);
        waiting = new ArrayList<>();
        return code(read, 0);
    }

    int rows(int table) {
        return table >= 0 && table < tables.size() ? tables.get(table).size() : -1;
    }

    int row(int table, int i, int what) {
        return i >= 0 && i < rows(table) && what >= 0 && what < 3 ? tables.get(table).get(i)[what] : UNSAID;
    }

    int out(int i, int what) {
        if (i == -1 && what == 0) {
            return out.size();
        }
        return i >= 0 && i < out.size() && what >= 0 && what < 4 ? out.get(i)[what] : UNSAID;
    }

    private int hostCount() {
        int n = 0;
        for (boolean is : hosts) {
            n += is ? 1 : 0;
        }
        return n;
    }

    int host(int h, boolean is) {
        if (h < 0 || h > 7) {
            return code(-1, -1);
        }
        if (hosts[h] == is) {
            return code(-4, -4);
        }
        if (!is && hostCount() == 1) {
            return code(-5, -5);
        }
        int[] before = new int[32];
        for (int key = 0; key < 32; key++) {
            before[key] = owner(key);
        }
        hosts[h] = is;
        int moved = 0;
        for (List<int[]> table : tables) {
            for (int[] r : table) {
                moved += before[r[0]] != owner(r[0]) ? 1 : 0;
            }
        }
        return code(moved, 0);
    }

    int owner(int key) {
        if (key < 0 || key > 31) {
            return -1;
        }
        int best = -1;
        for (int h = 7; h >= 0; h--) {
            if (hosts[h] && (best == -1 || (key + 1) * (2 * h + 3) % 97 >= (key + 1) * (2 * best + 3) % 97)) {
                best = h;
            }
        }
        return best;
    }

    int owns(int h) {
        if (h < 0 || h > 7 || !hosts[h]) {
            return -1;
        }
        int n = 0;
        for (List<int[]> table : tables) {
            for (int[] r : table) {
                n += owner(r[0]) == h ? 1 : 0;
            }
        }
        return n;
    }

    int count(int what) {
        return switch (what) {
            case 0 -> log.size();
            case 1 -> read;
            case 2 -> lates(read);
            case 3 -> plan.size();
            case 4 -> hostCount();
            case 5 -> waiting.size();
            case 6 -> tape.length();
            case 7 -> greatest(read);
            case 8 -> marked;
            default -> -1;
        };
    }

    int status() {
        return status;
    }
}
