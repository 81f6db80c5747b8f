import java.util.function.Consumer;

/** Each call that is refused, in an object that has something of everything: nothing that can be seen has changed. */
public final class RefusalBoundsTest {
    private RefusalBoundsTest() {
    }

    public static void main(String[] args) {
        tellThatIsRefused();
        tablesThatAreRefused();
        lateThatIsRefused();
        readThatIsRefused();
        readThatIsFull();
        hostThatIsRefused();
        callsWithoutCodes();
        callsThatLook();
        refusedAheadOfTables();
        Check.finish();
    }

    /** Two rows are marked, of which one is late, another one waits and one is not read; the tape has three bytes. */
    private static Run rich(String sentence) {
        Run x = new Run(sentence).late(10, -1).make("a=source 0;b=ever a;c=sum b", 3).host(5, true, 0);
        x.tell(0, 4, 100, 50, 1).tell(0, 4, 200, 39, 2).tell(0, 4, 300, 60, 3).tell(0, 4, 400, 49, 4);
        return x.read(2, 2).mark(1).read(1, 1).count(5, 2).put("a=s").count(6, 3);
    }

    private static void stays(String sentence, int code, Consumer<Run> call) {
        Run x = rich(sentence).status(0);
        String before = x.seen();
        call.accept(x);
        x.status(code).sees(before).fault(-1);
        restIsAsItWas(x);
    }

    /** What only a later call can show: the mark, the log, the tape, the lateness. */
    private static void restIsAsItWas(Run x) {
        x.fall(2).table(2, "4:100@0").count(7, 50).count(2, 1).read(150, 2).table(0, "4:100@50 4:300@60").count(2, 2);
        x.mark(3).outs("+4:100@0 -4:100@0 +4:400@0").put("ource 1").tables(1).count(4, 2).late(-1, 10);
    }

    private static void tellThatIsRefused() {
        stays("2: -1, and nothing is done", -1, x -> x.tell(3, 0, 0, 0, -1));
        stays("2: -1, and nothing is done", -1, x -> x.tell(0, 32, 0, 0, -1));
        stays("2: -1, and nothing is done", -1, x -> x.tell(0, 0, 1001, 0, -1));
        stays("2: -1, and nothing is done", -1, x -> x.tell(0, 0, 0, 10001, -1));
    }

    private static void tablesThatAreRefused() {
        String[] texts = {"?", " ", "ource 1;a=ever a", "ource 3", "ource 1;b=ever a;c=ever b;d=ever c;e=ever z"};
        for (String text : texts) {
            Run x = rich("5: -6: they stay");
            x.put(text).end(0, 0);
            String before = x.seen();
            x.put("a=s" + text).tables(-6).status(-6).sees(before);
            restIsAsItWasBut(x);
        }
        Run x = rich("5: -6 of an empty one: they stay").end(0, 0);
        String before = x.seen();
        x.tables(-6).status(-6).fault(0).sees(before);
        restIsAsItWasBut(x);
    }

    private static void restIsAsItWasBut(Run x) {
        x.put("a=s");
        restIsAsItWas(x);
    }

    private static void lateThatIsRefused() {
        stays("7: -5: nothing is done; status: -1", -1, x -> x.late(-2, -5));
        stays("7: -5: nothing is done; status: -1", -1, x -> x.late(10001, -5));
    }

    private static void readThatIsRefused() {
        stays("8: -1, and nothing is done", -1, x -> x.read(-1, -1));
        stays("8: -1, and nothing is done", -1, x -> x.read(151, -1));
        stays("8: 0 are READ", 0, x -> x.read(0, 0));
    }

    private static void readThatIsFull() {
        Run x = new Run("III: FULL, and nothing is done").late(10, -1).make("a=source 0;b=times a 1000;c=times b 1000;d=sum c", 4);
        x.host(5, true, 0).tell(0, 4, 600, 50, 1).tell(0, 4, 300, 50, 2).tell(0, 4, 101, 50, 3).tell(0, 4, 9, 99, 4);
        x.read(1, 1).mark(1).read(1, 1);
        String before = x.seen();
        x.read(2, 0).status(-5).sees(before).fault(-1).fall(1).table(3, "4:600000000@50").read(150, 1).status(-5).sees(before);
        x.mark(3).outs("+4:600000000@50 -4:600000000@50 +4:900000000@50").late(-1, 10);
    }

    private static void hostThatIsRefused() {
        stays("14: -1, and nothing is done", -1, x -> x.host(8, true, -1));
        stays("14: -1, and nothing is done", -1, x -> x.host(-1, false, -1));
        stays("14: -4, and nothing is done", -4, x -> x.host(5, true, -4));
        stays("14: -4, and nothing is done", -4, x -> x.host(6, false, -4));
    }

    private static void callsWithoutCodes() {
        stays("4: NONE, and nothing is done", 0, x -> x.end(4, -1));
        stays("4: NONE, and nothing is done", 0, x -> x.end(-1, -1));
        stays("4: n bytes of n", 0, x -> x.end(3, 3));
        stays("11: NONE, and nothing is done", 0, x -> x.rows(3, -1).rows(-1, -1));
        stays("12: UNSAID, and nothing is done", 0, x -> x.row(3, 0, 0, Run.UNSAID).row(0, 9, 0, Run.UNSAID));
        stays("13: UNSAID, and nothing is done", 0, x -> x.out(9, 0, Run.UNSAID).out(-1, 1, Run.UNSAID));
        stays("15: NONE, and nothing is done", 0, x -> x.owner(32, -1).owner(-1, -1));
        stays("16: NONE, and nothing is done", 0, x -> x.owns(6, -1).owns(8, -1));
        stays("17: NONE, and nothing is done", 0, x -> x.count(9, -1).count(-1, -1));
        Run x = rich("3: NONE, and nothing is done");
        for (int bytes = 23; bytes <= 283; bytes += 20) {
            x.feed(0, 0, 0, 0, 0, bytes);
        }
        x.feed(1, 1, 1, 1, 1, -1).status(0).count(6, 283).end(3, 3);
        restIsAsItWas(x);
    }

    private static void callsThatLook() {
        stays("a call that looks changes nothing", 0, x -> x.fault(-1).rows(2, 1).row(2, 0, 1, 400).out(0, 3, 1));
        stays("a call that looks changes nothing", 0, x -> x.owner(4, 5).owns(5, 5).count(5, 2).status(0));
    }

    private static void refusedAheadOfTables() {
        Run x = new Run("-6 no TABLES, and nothing is done").late(4, -1).tell(0, 1, 1, 1, 1).host(3, true, 0).put("a=s");
        String before = x.seen();
        x.read(1, -6).status(-6).sees(before).mark(-6).status(-6).sees(before).fall(-6).status(-6).sees(before);
        x.put("ource 0").tables(1).read(1, 1).rows(0, 1).late(-1, 4);
    }
}
