/** The bounds of FULL and of what may be OUT, in Terms III: 400 ROWS, a VALUE beyond, 4000 CHANGES. */
public final class FullBoundsTest {
    private static final String A = "a=source 0;";
    /** The value 142 is turned to 142,857,143 by these, seven times which is one beyond. */
    private static final String NEAR = A + "b=times a 1000;c=plus b 857;d=times c 1000;e=plus d ";

    private FullBoundsTest() {
    }

    public static void main(String[] args) {
        fourHundredRows();
        oneRowTooMany();
        rowsOfATableAmongThem();
        plusBeyond();
        timesBeyond();
        sumBeyond();
        joinBeyond();
        farBeyond();
        beyondInATableAmongThem();
        beyondThatIsLate();
        beyondOfAnotherSource();
        norAnyBehindIt();
        fullAgainAndAgain();
        fullOfTheFirst();
        fourThousandWait();
        oneChangeTooMany();
        someOfItsChangesTooMany();
        noChangeWhere4000Wait();
        fourThousandOut();
        oneOutTooMany();
        markThatIsRefused();
        Check.finish();
    }

    /** The row behind those that are read is full: it is not read, and nothing has changed by it. */
    private static Run full(Run x, int n) {
        int[] counts = x.counts();
        x.read(n, 0).status(-5);
        for (int what = 0; what < counts.length; what++) {
            x.count(what, counts[what]);
        }
        return x;
    }

    /** Twenty rows of a key in each source, so that join makes 400 of them. */
    private static Run pairs(String sentence, String text, int tables) {
        return new Run(sentence).make(text, tables).tells(20, 0, 3, 1, 1).tells(20, 1, 3, 2, 1);
    }

    private static void fourHundredRows() {
        Run x = pairs("III: a TABLE may have 400 ROWS", A + "b=source 1;c=join a b", 3);
        x.read(39, 39).status(0).rows(2, 380).read(1, 1).status(0).rows(2, 400).count(5, 400).row(2, 399, 1, 3);
        x.row(2, 400, 1, Run.UNSAID).mark(400).out(399, 1, 3).fall(40).rows(2, 400).row(2, 399, 1, 3);
    }

    private static void oneRowTooMany() {
        Run x = pairs("III: FULL, if some TABLE would have more than 400 ROWS", A + "b=source 1;c=join a b", 3);
        x.tell(0, 4, 5, 6, 41).tell(1, 4, 7, 8, 42).read(41, 41).status(0).rows(2, 400);
        full(x, 1).rows(0, 21).rows(1, 20).rows(2, 400).count(1, 41).count(7, 6).row(2, 399, 0, 3);
        x.mark(400).status(0).count(8, 41).fall(41);
        Run y = pairs("III: 399 and one more", A + "b=source 1;c=where a value>0;d=join c b", 4);
        y.tell(0, 3, 0, 1, 41).tell(0, 4, 1, 1, 42).tell(0, 4, 0, 1, 43).read(43, 43).status(0).rows(3, 400);
    }

    private static void rowsOfATableAmongThem() {
        String[] texts = {A + "b=source 1;c=join a b;d=where c key=9", A + "b=source 1;c=join a b;d=sum c",
            A + "b=source 1;c=join a b;d=source 2"};
        for (String text : texts) {
            Run x = pairs("III: some TABLE, though it is not THE ANSWER", text, 4);
            x.tell(0, 4, 5, 6, 41).tell(1, 4, 7, 8, 42).read(41, 41).rows(2, 400);
            full(x, 1).rows(1, 20).rows(2, 400);
        }
    }

    /** One row of a value is read, or full; what the last table has of it. */
    private static void one(String text, int value, boolean isFull, int made) {
        int tables = text.split(";").length;
        Run x = new Run("III: FULL, if a VALUE would be beyond: " + value + " of \"" + text + "\"").make(text, tables);
        x.tell(0, 31, value, 10000, 1);
        if (isFull) {
            full(x, 1).rows(0, 0).rows(tables - 1, 0).count(1, 0).count(7, -1).fall(0).mark(0).count(8, 0);
        } else {
            x.read(1, 1).status(0).table(tables - 1, "31:" + made + "@10000").mark(1).outs("+31:" + made + "@10000");
        }
    }

    private static void plusBeyond() {
        String text = A + "b=times a 1000;c=times b 1000;d=plus c ";
        one(text + "0", 1000, false, 1_000_000_000);
        one(text + "1", 1000, true, 0);
        one(text + "-1", 1000, false, 999_999_999);
        one(text + "0", -1000, false, -1_000_000_000);
        one(text + "-1", -1000, true, 0);
        one(text + "1", -1000, false, -999_999_999);
        one(text + "1000", 999, false, 999_001_000);
        one(text + "1000", 1000, true, 0);
        one(text + "-1000", -1000, true, 0);
    }

    private static void timesBeyond() {
        one(A + "b=times a 1000;c=times b 1000", 1000, false, 1_000_000_000);
        one(A + "b=times a 1000;c=times b -1000", 1000, false, -1_000_000_000);
        one(A + "b=times a 1000;c=times b -1000", -1000, false, 1_000_000_000);
        one(NEAR + "143;f=times e 7", 142, true, 0);
        one(NEAR + "142;f=times e 7", 142, false, 999_999_994);
        one(NEAR + "143;f=times e -7", 142, true, 0);
        one(NEAR + "142;f=times e -7", 142, false, -999_999_994);
        one(A + "b=times a 1000;c=times b 1000;d=times c -1", 1000, false, -1_000_000_000);
        one(A + "b=times a 1000;c=times b 1000;d=times c 0", 1000, false, 0);
    }

    /** Two rows of like key and time, of which the second one makes the sum. */
    private static void two(String text, int first, int second, boolean isFull, int sum) {
        int tables = text.split(";").length;
        Run x = new Run("III: FULL, if a VALUE would be beyond, a sum of \"" + text + "\"").make(text, tables);
        x.tell(0, 5, first, 6, 1).tell(0, 5, second, 6, 2).tell(0, 6, 1, 7, 3).read(1, 1).status(0);
        if (isFull) {
            full(x, 2).rows(0, 1).rows(tables - 1, 1).count(1, 1).count(7, 6);
        } else {
            x.read(2, 2).status(0).row(tables - 1, 0, 1, sum).rows(tables - 1, 2);
        }
    }

    private static void sumBeyond() {
        String halves = A + "b=times a 1000;c=times b 1000;d=sum c";
        two(halves, 500, 500, false, 1_000_000_000);
        two(halves, 500, 501, true, 0);
        two(halves, -500, -500, false, -1_000_000_000);
        two(halves, -501, -500, true, 0);
        two(halves, 1000, -1000, false, 0);
        two(halves, 1000, 0, false, 1_000_000_000);
        // 998,501,499 and 1,498,500 are one less than that, each of them one more is one beyond
        two(A + "b=times a 999;c=plus b 501;d=times c 999;e=plus d 0;f=sum e", 1000, 1, false, 999_999_999);
        two(A + "b=times a 999;c=plus b 501;d=times c 999;e=plus d 1;f=sum e", 1000, 1, true, 0);
        two(A + "b=times a 999;c=plus b -501;d=times c 999;e=plus d 0;f=sum e", -1000, -1, false, -999_999_999);
        two(A + "b=times a 999;c=plus b -501;d=times c 999;e=plus d -1;f=sum e", -1000, -1, true, 0);
    }

    private static void joinBeyond() {
        String halves = A + "b=times a 1000;c=times b 1000;d=plus c ";
        one(halves + "0;e=join c d", 500, false, 1_000_000_000);
        one(halves + "1;e=join c d", 500, true, 0);
        one(halves + "1;e=join d c", 500, true, 0);
        one(halves + "-1;e=join c d", 500, false, 999_999_999);
        one(halves + "0;e=join c d", -500, false, -1_000_000_000);
        one(halves + "-1;e=join c d", -500, true, 0);
        one(halves + "1;e=join c d", -500, false, -999_999_999);
    }

    /** What an int could not hold, and would come back to the range. */
    private static void farBeyond() {
        String greatest = A + "b=times a 1000;c=times b 1000;d=";
        one(greatest + "times c 1000", 1000, true, 0);
        one(greatest + "times c -1000", 1000, true, 0);
        one(greatest + "times c 1000", -1000, true, 0);
        // 4,294,000,000 would be -967,296
        one(greatest + "times c 19", 226, true, 0);
        one(greatest + "join c c", 1000, true, 0);
        one(greatest + "join c c", -1000, true, 0);
        // five of 859 millions are 4,295,000,000, which would be 32,704
        Run x = new Run("III: a VALUE beyond, a sum that would wrap around").make(greatest + "source 1;e=join c d;f=sum e", 6);
        x.tells(5, 0, 1, 859, 1).tell(1, 1, 0, 1, 6).read(5, 5).status(0);
        full(x, 1).rows(3, 0).rows(4, 0).rows(5, 0).count(1, 5);
    }

    private static void beyondInATableAmongThem() {
        one(A + "b=times a 1000;c=times b 1000;d=times c 2;e=where a key=9", 501, true, 0);
        one(A + "b=times a 1000;c=times b 1000;d=times c 2;e=plus a 0", 500, false, 500);
        one(A + "b=where a value<501;c=times b 1000;d=times c 1000;e=times d 2;f=plus a 0", 501, false, 501);
        one(A + "b=where a value<502;c=times b 1000;d=times c 1000;e=times d 2;f=plus a 0", 501, true, 0);
    }

    private static void beyondThatIsLate() {
        Run x = new Run("III: a ROW that is LATE makes no TABLE FULL").late(0, -1);
        x.make(A + "b=times a 1000;c=times b 1000;d=plus c 1", 4).tell(0, 1, 1, 5, 1).tell(0, 1, 1000, 4, 2);
        x.tell(0, 1, 1000, 5, 3).read(2, 2).status(0).count(2, 1);
        full(x, 1).count(1, 2).rows(0, 1);
    }

    private static void beyondOfAnotherSource() {
        Run x = new Run("III: a ROW of a SOURCE without a TABLE makes none FULL");
        x.make(A + "b=times a 1000;c=times b 1000;d=plus c 1", 4).tell(1, 1, 1000, 5, 1).tell(2, 1, 1000, 5, 2);
        x.tell(0, 1, 1000, 5, 3).read(2, 2).status(0).count(7, 5);
        full(x, 1).count(1, 2);
    }

    private static void norAnyBehindIt() {
        Run x = new Run("III: then it is not READ, nor any behind it").make(A + "b=times a 1000;c=times b 1000;d=plus c 1", 4);
        x.tell(0, 1, 1, 1, 1).tell(0, 2, 999, 2, 2).tell(0, 3, 1000, 9, 3).tell(0, 4, 1, 4, 4).tell(1, 5, 5, 5, 5);
        x.read(150, 2).status(-5).count(1, 2).count(5, 2).count(7, 2).rows(0, 2).rows(3, 2).mark(2).count(8, 2);
        full(x, 150).rows(0, 2);
        full(x, 1).rows(0, 2).fall(2);
    }

    private static void fullAgainAndAgain() {
        Run x = new Run("III: FULL, whenever it is tried").make(A + "b=times a 1000;c=times b 1000;d=plus c 1", 4);
        x.tell(0, 1, 1, 1, 1).tell(0, 2, 1000, 2, 2).tell(0, 3, 3, 3, 3).read(2, 1).status(-5);
        full(x, 1).read(0, 0).status(0);
        full(x, 2).fall(0).status(0).read(1, 1).status(0);
        full(x, 150).make("a=source 0", 1).read(150, 3).status(0).table(0, "1:1@1 2:1000@2 3:3@3");
    }

    private static void fullOfTheFirst() {
        Run x = new Run("III: the first is FULL").make(A + "b=times a 1000;c=times b 1000;d=plus c 1", 4);
        x.tell(0, 2, 1000, 2, 1).tell(0, 1, 1, 1, 2).read(2, 0).status(-5).count(1, 0).count(7, -1).mark(0).count(8, 0);
    }

    /** With all but some of these read, 4000 changes wait; each row behind them is of one change. */
    private static Run changes(String sentence) {
        Run x = new Run(sentence).make(A + "b=source 1;c=sum a;d=join b b;e=join c d", 5);
        // ten rows are a hundred pairs: 100 new ones, then 200 changes for each row of source 0
        x.tells(10, 1, 0, 0, 0).tells(20, 0, 0, 1, 0).tells(9, 1, 1, 0, 0).tell(0, 1, 1, 0, 40);
        // 81 are new of those, so 19 more are wanted, of one pair each
        for (int key = 2; key <= 20; key++) {
            x.tell(1, key, 0, 0, 37 + 2 * key).tell(0, key, 1, 0, 38 + 2 * key);
        }
        return x.tell(1, 21, 0, 0, 79).tell(0, 21, 1, 0, 80).tell(2, 0, 0, 7, 81).tell(0, 22, 1, 8, 82);
    }

    private static void fourThousandWait() {
        Run x = changes("III: 4000 CHANGES may WAIT");
        x.read(30, 30).count(5, 3900).read(10, 10).count(5, 3981).read(37, 37).count(5, 3999).status(0);
        x.read(1, 1).status(0).count(1, 78).count(5, 4000).rows(4, 200);
        x.mark(4000).status(0).count(5, 0).count(8, 78).out(3999, 0, 20).out(3999, 3, 1).out(4000, 0, Run.UNSAID);
    }

    private static void oneChangeTooMany() {
        Run x = changes("III: FULL, if more than 4000 CHANGES would WAIT").read(79, 79).count(5, 4000).status(0);
        full(x, 1).rows(0, 40).rows(4, 200).count(1, 79);
        full(x, 150).rows(0, 40).rows(4, 200).count(1, 79).mark(4000).status(0).read(1, 1).status(0).count(5, 1);
        x.rows(0, 41).rows(4, 201);
        Run y = changes("III: more than 4000 would WAIT, once for all that are READ").read(150, 79).status(-5);
        y.count(5, 4000).count(1, 79).fall(0).count(5, 0).read(79, 79).count(5, 4000).status(0);
    }

    private static void someOfItsChangesTooMany() {
        Run x = new Run("III: more than 4000 would WAIT, though some of them would not");
        x.make(A + "b=source 1;c=sum a;d=join b b;e=join c d", 5).tells(10, 1, 0, 0, 0).tells(20, 0, 0, 1, 0);
        // 3900 changes, then 99 pairs of other keys: 49, 25, 25
        x.tells(7, 1, 1, 0, 0).tells(5, 1, 2, 0, 0).tells(5, 1, 3, 0, 0);
        x.tell(0, 1, 1, 0, 48).tell(0, 2, 1, 0, 49).tell(0, 3, 1, 0, 50).tell(1, 4, 0, 0, 51);
        // the first of these turns 25 rows, the other one is of one change
        x.tell(0, 3, 1, 0, 52).tell(0, 4, 1, 0, 53).read(51, 51).status(0).count(5, 3999).rows(4, 199);
        full(x, 2).rows(4, 199).row(4, 198, 1, 1).mark(3999).status(0).out(3998, 0, 3).out(3999, 0, Run.UNSAID);
        x.read(1, 1).status(0).count(5, 50).mark(-5).status(-5).out(-1, 0, 3999).out(3999, 0, Run.UNSAID).count(5, 50);
        x.fall(51).count(5, 0).row(4, 198, 1, 1).mark(3999);
    }

    private static void noChangeWhere4000Wait() {
        Run x = new Run("III: a ROW of no CHANGE, where 4000 WAIT").make(A + "b=source 1;c=sum a;d=join b b;e=join c d", 5);
        x.late(0, -1).tells(10, 1, 0, 0, 1).tells(20, 0, 0, 1, 1).tells(10, 1, 1, 0, 1).tell(0, 1, 1, 1, 41);
        x.tell(2, 0, 0, 9, 42).tell(0, 1, 1, 8, 43).tell(0, 9, 1, 9, 44).tell(0, 1, 1, 9, 45);
        x.read(41, 41).count(5, 4000).read(1, 1).status(0).read(1, 1).status(0).count(2, 1).read(1, 1).status(0);
        x.count(5, 4000).count(1, 44);
        full(x, 1).mark(4000);
    }

    private static void fourThousandOut() {
        Run x = changes("III: at most 4000 in all are OUT").read(30, 30).mark(3900).read(47, 47).count(5, 99).mark(3999);
        x.status(0).read(1, 1).count(5, 1).mark(4000).status(0).out(-1, 0, 4000).count(5, 0).count(8, 78);
        x.out(3998, 0, 19).out(3999, 0, 20).out(3999, 1, 1).out(3999, 2, 0).out(3999, 3, 1).out(4000, 3, Run.UNSAID);
        x.mark(4000).status(0).read(1, 1).mark(4000).status(0).count(8, 79).fall(79).out(3999, 0, 20);
    }

    private static void oneOutTooMany() {
        Run x = changes("III: at most 4000 in all: else -5").read(78, 78).mark(4000).read(2, 2).count(5, 1);
        x.mark(-5).status(-5).out(-1, 0, 4000).out(4000, 0, Run.UNSAID).count(5, 1).count(1, 80).count(8, 78).rows(4, 201);
        x.mark(-5).status(-5).fall(78).status(0).count(5, 0).rows(4, 200).out(3999, 0, 20).mark(4000).status(0);
        x.late(-1, -1).out(-1, 0, 0).read(78, 78).mark(4000).status(0).out(3999, 0, 20);
    }

    private static void markThatIsRefused() {
        Run x = changes("9: -5, and nothing is kept").read(12, 12).mark(300).read(18, 18).count(5, 3600).mark(3900);
        x.fall(30).late(-1, -1).read(31, 31).mark(3900).read(47, 47).count(5, 100).mark(4000).count(8, 78);
        x.read(4, 4).status(0).count(1, 82).count(5, 1).count(7, 8).mark(-5).status(-5).count(1, 82).count(7, 8).count(8, 78);
        x.fall(78).count(7, 0).count(1, 78).read(1, 1).count(5, 0).mark(4000).status(0).count(8, 79).fall(79);
    }
}
