/** The bounds of "What it is", of Terms I, and of promises 1, 2 and 18: an object, ROWS that are told, refusals. */
public final class RowBoundsTest {
    private static final String THREE = "a=source 0;b=source 1;c=source 2";

    private RowBoundsTest() {
    }

    public static void main(String[] args) {
        newObject();
        lastOf512Calls();
        callsBehindThe512th();
        keyThatIsTold();
        valueThatIsTold();
        timeThatIsTold();
        sourceThatIsTold();
        numbersFarBeyond();
        severalNumbersBeyond();
        logOf150();
        logStaysFull();
        numberAheadOfRoom();
        numberAheadOfText();
        twiceAheadOfRoom();
        noneReadAtFirst();
        noneTold();
        greatestValueOfARow();
        statusAheadOfAny();
        statusOfEachRefusal();
        statusOfEachTakenCall();
        statusBehindCallsWithoutCodes();
        Check.finish();
    }

    private static void newObject() {
        Run x = new Run("1: no ROWS, TABLES; HOST 0");
        x.sees("counts 0 0 0 0 1 0 0 -1 0, owned 0 -1 -1 -1 -1 -1 -1 -1, out ");
        x.rows(0, -1).row(0, 0, 0, Run.UNSAID).out(0, 0, Run.UNSAID).out(-1, 0, 0).fault(-1).status(0);
        x.owner(0, 0).owner(31, 0).late(-1, -1);
    }

    private static void lastOf512Calls() {
        Run x = new Run("an object is used for at most 512 calls");
        x.make("a=source 0;b=ever a;c=sum b", 3);
        x.tells(150, 0, 7, 1, 5).read(150, 150);
        while (x.calls() < 510) {
            x.fall(0).read(150, 150);
        }
        while (x.calls() < 511) {
            x.status(0);
        }
        x.row(2, 0, 1, 150);
        Check.due("the calls of this run", x.calls(), 512);
    }

    /** What they answer is free, but none throws and each ends. */
    private static void callsBehindThe512th() {
        TableStreams x = new TableStreams();
        int[] numbers = {0, 1, -1, 2, 3, 7, 8, 31, 32, 150, 151, 300, 399, 400, 3999, 4000, 10000, 10001,
            Integer.MIN_VALUE, Integer.MAX_VALUE};
        int ended = 0;
        for (int i = 0; i < 40_000; i++) {
            int a = numbers[i * 7 % 20];
            int b = numbers[(i / 20 * 3 + i) % 20];
            int c = numbers[(i / 400 + i * 11) % 20];
            if (i % 997 == 0) {
                Check.make(x, "a=source 0;b=source 1;c=join a b;d=sum c;e=join c d");
            }
            anyCall(x, i / 3, a, b, c);
            ended++;
        }
        Check.due("calls behind the 512th that ended", ended, 40_000);
    }

    private static int anyCall(TableStreams x, int which, int a, int b, int c) {
        return switch (which % 17) {
            case 0 -> x.tell(a, b, c, a);
            case 1 -> x.feed(a, b, c, a, b);
            case 2 -> x.end(a);
            case 3 -> which % 5 == 0 ? x.tables() : x.tell(which % 2, which % 4, a, which % 9);
            case 4 -> x.fault();
            case 5 -> which % 7 == 0 ? x.late(a) : x.tell(which % 2, which % 5, 1, 1);
            case 6 -> x.read(a);
            case 7 -> x.mark();
            case 8 -> x.fall();
            case 9 -> x.rows(a);
            case 10 -> x.row(a, b, c);
            case 11 -> x.out(a, b);
            case 12 -> x.host(a, b > c);
            case 13 -> x.owner(a);
            case 14 -> x.owns(a);
            case 15 -> x.count(a);
            default -> x.status();
        };
    }

    private static void keyThatIsTold() {
        Run x = new Run("I: a KEY is 0 .. 31").make(THREE, 3);
        x.tell(0, -1, 1, 1, -1).status(-1).count(0, 0);
        x.tell(0, 0, 1, 1, 1).status(0).count(0, 1);
        x.tell(0, 32, 1, 1, -1).status(-1).count(0, 1);
        x.tell(0, 31, 1, 1, 2).status(0).count(0, 2);
        x.read(150, 2).table(0, "0:1@1 31:1@1");
    }

    private static void valueThatIsTold() {
        Run x = new Run("I: VALUES -1000 .. 1000 are told").make(THREE, 3);
        x.tell(0, 1, -1001, 1, -1).status(-1).count(0, 0);
        x.tell(0, 1, -1000, 1, 1).status(0).count(0, 1);
        x.tell(0, 1, 1001, 1, -1).status(-1).count(0, 1);
        x.tell(0, 1, 1000, 1, 2).status(0).count(0, 2);
        x.read(150, 2).table(0, "1:-1000@1 1:1000@1");
    }

    private static void timeThatIsTold() {
        Run x = new Run("I: a TIME is 0 .. 10,000").make(THREE, 3);
        x.tell(0, 1, 1, -1, -1).status(-1).count(0, 0);
        x.tell(0, 1, 1, 0, 1).status(0).count(0, 1);
        x.tell(0, 1, 1, 10001, -1).status(-1).count(0, 1);
        x.tell(0, 1, 1, 10000, 2).status(0).count(0, 2);
        x.read(1, 1).count(7, 0).read(150, 1).count(7, 10000).table(0, "1:1@0 1:1@10000");
    }

    private static void sourceThatIsTold() {
        Run x = new Run("I: SOURCES are 0 .. 2").make(THREE, 3);
        x.tell(-1, 1, 1, 1, -1).status(-1).count(0, 0);
        x.tell(0, 1, 1, 1, 1).status(0).count(0, 1);
        x.tell(3, 1, 1, 1, -1).status(-1).count(0, 1);
        x.tell(2, 3, 3, 3, 2).status(0).tell(1, 2, 2, 2, 3).count(0, 3);
        x.read(150, 3).table(0, "1:1@1").table(1, "2:2@2").table(2, "3:3@3");
    }

    private static void numbersFarBeyond() {
        int[] far = {Integer.MIN_VALUE, Integer.MAX_VALUE, 1 << 30, -(1 << 30), 256, 65536};
        for (int n : far) {
            Run x = new Run("2: -1 for " + n);
            x.tell(n, 1, 1, 1, -1).status(-1).tell(0, n, 1, 1, -1).status(-1).tell(0, 1, n == 256 ? 1256 : n, 1, -1);
            x.status(-1).tell(0, 1, 1, n == 256 ? -256 : n, -1).status(-1).count(0, 0);
        }
    }

    private static void severalNumbersBeyond() {
        Run x = new Run("2: -1, if more than one number can't be");
        x.tell(3, 32, 1001, 10001, -1).status(-1).tell(-1, -1, -1001, -1, -1).status(-1).count(0, 0);
        x.tell(2, 31, 1000, 10000, 1).status(0).tell(0, 0, -1000, 0, 2).status(0).count(0, 2);
    }

    private static void logOf150() {
        Run x = new Run("I: THE LOG has 150 ROWS at most").make("a=source 0;b=source 1", 2);
        x.tells(149, 0, 1, 1, 1);
        x.tell(0, 2, 2, 2, 150).status(0).count(0, 150);
        x.tell(1, 3, 3, 3, -5).status(-5).count(0, 150);
        x.tell(1, 3, 3, 3, -5).status(-5).count(0, 150);
        x.read(150, 150).status(0).rows(0, 150).rows(1, 0).row(0, 149, 0, 2).row(0, 150, 0, Run.UNSAID);
        x.read(1, 0).status(0).count(1, 150).count(7, 2);
    }

    private static void logStaysFull() {
        Run x = new Run("III: THE LOG stays, and is full still");
        x.tells(150, 0, 1, 1, 1).make("a=source 0", 1).tell(0, 1, 1, 1, -5);
        x.read(150, 150).tell(0, 1, 1, 1, -5).mark(150).tell(0, 1, 1, 1, -5).fall(150).tell(0, 1, 1, 1, -5);
        x.late(3, -1).tell(0, 1, 1, 1, -5).status(-5).count(0, 150).read(150, 150).rows(0, 150);
    }

    private static void numberAheadOfRoom() {
        Run x = new Run("I: the first in that order: -1 ahead of -5").tells(149, 0, 1, 1, 1);
        x.tell(3, 1, 1, 1, -1).status(-1).tell(0, 1, 1, 1, 150).status(0);
        x.tell(0, 1, 1, 1, -5).status(-5);
        x.tell(3, 1, 1, 1, -1).status(-1).tell(0, 32, 1, 1, -1).tell(0, 1, 1001, 1, -1).tell(0, 1, 1, 10001, -1);
        x.status(-1).count(0, 150);
    }

    private static void numberAheadOfText() {
        Run x = new Run("I: the first in that order: -1 ahead of -6");
        x.read(-1, -1).status(-1).read(0, -6).status(-6).read(151, -1).status(-1).read(150, -6).status(-6);
        x.count(1, 0);
    }

    private static void twiceAheadOfRoom() {
        Run x = new Run("I: the first in that order: -1, -4, -5 of host()");
        x.host(8, false, -1).status(-1).host(-1, false, -1).status(-1);
        x.host(1, false, -4).status(-4).host(0, true, -4).status(-4);
        x.host(0, false, -5).status(-5).count(4, 1);
    }

    private static void noneReadAtFirst() {
        Run x = new Run("I: those that were READ are the first of it, so many; none at first").make("a=source 0", 1);
        x.tell(0, 9, 9, 9, 1).tell(0, 3, 3, 3, 2).tell(0, 6, 6, 6, 3);
        x.count(1, 0).table(0, "").read(1, 1).count(1, 1).table(0, "9:9@9");
        x.read(1, 1).count(1, 2).table(0, "3:3@3 9:9@9").read(1, 1).count(1, 3).table(0, "3:3@3 6:6@6 9:9@9");
        x.read(1, 0).count(1, 3).tell(0, 1, 1, 1, 4).count(1, 3).rows(0, 3).read(1, 1).rows(0, 4);
    }

    private static void noneTold() {
        Run x = new Run("8: as there are, of an empty LOG").make("a=source 0", 1);
        x.read(150, 0).status(0).read(1, 0).status(0).count(1, 0).count(7, -1).mark(0).status(0).fall(0).status(0);
    }

    private static void greatestValueOfARow() {
        Run x = new Run("I: a VALUE is -1,000,000,000 .. 1,000,000,000");
        x.make("a=source 0;b=times a 1000;c=times b 1000", 3).tell(0, 31, 1000, 10000, 1).tell(0, 31, -1000, 10000, 2);
        x.tell(0, 0, -1000, 0, 3).tell(0, 0, 1000, 0, 4).read(150, 4).status(0);
        x.table(2, "0:-1000000000@0 0:1000000000@0 31:-1000000000@10000 31:1000000000@10000");
        x.mark(4).outs("+31:1000000000@10000 +31:-1000000000@10000 +0:-1000000000@0 +0:1000000000@0");
    }

    private static void statusAheadOfAny() {
        new Run("18: 0 ahead of any").status(0).status(0);
        Run x = new Run("18: 0 ahead of any, though calls without codes answer NONE");
        x.end(1, -1).rows(0, -1).owner(32, -1).owns(1, -1).count(9, -1).out(0, 0, Run.UNSAID).status(0);
    }

    private static void statusOfEachRefusal() {
        new Run("18: of tell, -1").tell(3, 0, 0, 0, -1).status(-1).status(-1);
        new Run("18: of tell, -5").tells(150, 0, 0, 0, 0).tell(0, 0, 0, 0, -5).status(-5).status(-5);
        new Run("18: of tables, -6").tables(-6).status(-6).status(-6);
        new Run("18: of late, -1 though it answers -5").late(-2, -5).status(-1).status(-1);
        new Run("18: of read, -1").read(-1, -1).status(-1).status(-1);
        new Run("18: of read, -6").read(1, -6).status(-6).status(-6);
        new Run("18: of mark, -6").mark(-6).status(-6).status(-6);
        new Run("18: of fall, -6").fall(-6).status(-6).status(-6);
        new Run("18: of host, -1").host(8, true, -1).status(-1).status(-1);
        new Run("18: of host, -4").host(0, true, -4).status(-4).status(-4);
        new Run("18: of host, -5").host(0, false, -5).status(-5).status(-5);
    }

    private static void statusOfEachTakenCall() {
        Run x = new Run("18: 0 if it was not");
        x.host(0, true, -4).status(-4).tell(0, 0, 0, 0, 1).status(0);
        x.host(0, true, -4).put("a=source 0").status(-4).tables(1).status(0);
        x.host(0, true, -4).status(-4).late(4, -1).status(0);
        x.host(0, true, -4).status(-4).read(1, 1).status(0);
        x.host(0, true, -4).status(-4).mark(1).status(0);
        x.host(0, true, -4).status(-4).fall(1).status(0);
        x.host(0, true, -4).status(-4).host(1, true, 1).status(0);
        x.host(0, true, -4).status(-4).read(0, 0).status(0);
    }

    private static void statusBehindCallsWithoutCodes() {
        for (int code = -1; code >= -6; code--) {
            Run x = new Run("18: calls without a code leave it, here " + code);
            if (code == -2 || code == -3) {
                continue;
            }
            x.make("a=source 0", 1).tell(0, 0, 0, 0, 1).read(1, 1).mark(1);
            refuseBy(x, code);
            x.status(code);
            x.feed(0, 0, 0, 0, 0, 20).status(code).end(21, -1).status(code).end(3, 3).status(code).fault(fault(code));
            x.status(code).rows(0, 1).status(code).rows(1, -1).status(code).row(0, 0, 0, 0).status(code);
            x.row(0, 1, 0, Run.UNSAID).status(code).out(0, 3, 1).status(code).out(1, 0, Run.UNSAID).status(code);
            x.owner(0, 0).status(code).owner(32, -1).status(code).owns(0, 1).status(code).owns(1, -1).status(code);
            x.count(0, 1).status(code).count(9, -1).status(code);
        }
    }

    private static void refuseBy(Run x, int code) {
        switch (code) {
            case -1 -> x.read(151, -1);
            case -4 -> x.host(7, false, -4);
            case -5 -> x.host(0, false, -5);
            default -> x.tables(-6);
        }
    }

    private static int fault(int code) {
        return code == -6 ? 0 : -1;
    }
}
