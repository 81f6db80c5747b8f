/** The bounds of Terms III, and of promises 7 to 10, 13 and 17: LATE, READING, FULL, CHANGES, MARK and FALL. */
public final class ReadBoundsTest {
    private static final String A = "a=source 0;";

    private ReadBoundsTest() {
    }

    public static void main(String[] args) {
        latenessOfItsRange();
        latenessThatCantBe();
        latenessNoneAtFirst();
        lateByOne();
        lateByNothing();
        lateByTenThousand();
        neverLateWithoutLateness();
        theFirstIsNotLate();
        greatestTimeOfAllSources();
        greatestTimeOfRowsReadAlone();
        greatestTimeIsNotLowered();
        lateRowsAreRead();
        readOfItsRange();
        readAsThereAre();
        readWithoutTables();
        outsOfItsRange();
        changesInTheirOrder();
        changesLessOften();
        changesThatAreNone();
        markWithoutTables();
        markOfNothing();
        markKeeps();
        theLatestMark();
        fallWithoutTables();
        fallWithoutAMark();
        fallGivesBack();
        fallLeavesTheRest();
        eachIsOutOnce();
        takenTablesBeginAnew();
        takenLatenessBeginsAnew();
        countsOfTheirRange();
        Check.finish();
    }

    private static void latenessOfItsRange() {
        Run x = new Run("III: LATENESS 0 .. 10,000, or none");
        x.late(0, -1).status(0).late(10000, 0).status(0).late(-1, 10000).status(0).late(-1, -1).status(0);
        x.late(9999, -1).late(1, 9999).late(1, 1).status(0);
    }

    private static void latenessThatCantBe() {
        int[] ones = {-2, 10001, Integer.MIN_VALUE, Integer.MAX_VALUE};
        for (int n : ones) {
            Run x = new Run("7: -5 for what can't be (then nothing is done; status: -1)").late(20, -1);
            x.make(A + "b=ever a", 2).tell(0, 1, 1, 50, 1).tell(0, 2, 2, 29, 2).tell(0, 3, 3, 30, 3).read(2, 2).mark(1);
            x.read(1, 1).status(0);
            String before = x.seen();
            x.late(n, -5).status(-1).sees(before).count(1, 3).count(2, 1).count(5, 1).count(8, 2);
            x.fall(2).status(0).table(1, "1:1@0").read(1, 1).mark(2).late(-1, 20).status(0);
        }
    }

    private static void latenessNoneAtFirst() {
        new Run("III: none, at first").late(7, -1).late(-1, 7);
        new Run("7: NONE: none, what it was").late(-1, -1).status(0).late(-1, -1).status(0);
    }

    /** A row of that time behind one of the greatest time: whether it is late. */
    private static void lateness(String sentence, int lateness, int greatest, int time, int lates) {
        Run x = new Run(sentence + ", " + greatest + " - " + lateness + " against " + time).make("a=source 0", 1);
        x.late(lateness, -1).tell(0, 1, 1, greatest, 1).tell(0, 2, 2, time, 2).read(2, 2).status(0);
        x.count(1, 2).count(2, lates).count(5, 2 - lates).count(7, Math.max(greatest, time)).rows(0, 2 - lates);
    }

    private static void lateByOne() {
        lateness("III: LATE, if its TIME is below", 10, 100, 89, 1);
        lateness("III: not LATE at the edge", 10, 100, 90, 0);
        lateness("III: not LATE above the edge", 10, 100, 91, 0);
        lateness("III: LATE, if its TIME is below", 1, 1, 0, 0);
        lateness("III: LATE, if its TIME is below", 1, 2, 0, 1);
    }

    private static void lateByNothing() {
        lateness("III: LATENESS 0, below", 0, 100, 99, 1);
        lateness("III: LATENESS 0, like", 0, 100, 100, 0);
        lateness("III: LATENESS 0, above", 0, 100, 101, 0);
        lateness("III: LATENESS 0, at 0", 0, 0, 0, 0);
        lateness("III: LATENESS 0, at the greatest", 0, 10000, 9999, 1);
    }

    private static void lateByTenThousand() {
        lateness("III: LATENESS 10,000 leaves none out", 10000, 10000, 0, 0);
        lateness("III: LATENESS 9999 leaves one out", 9999, 10000, 0, 1);
        lateness("III: LATENESS 9999 at the edge", 9999, 10000, 1, 0);
    }

    private static void neverLateWithoutLateness() {
        lateness("III: or none", -1, 10000, 0, 0);
        Run x = new Run("III: none again").make("a=source 0", 1).late(0, -1).late(-1, 0);
        x.tell(0, 1, 1, 10000, 1).tell(0, 2, 2, 0, 2).read(2, 2).count(2, 0).rows(0, 2);
    }

    private static void theFirstIsNotLate() {
        Run x = new Run("III: ROWS READ ahead of it, of the first none").make("a=source 0", 1).late(0, -1);
        x.tell(0, 1, 1, 0, 1).count(7, -1).read(1, 1).count(2, 0).count(7, 0).table(0, "1:1@0");
        x.tell(0, 2, 2, 50, 2).read(1, 1).late(0, 0).count(7, -1).read(1, 1).count(2, 0).table(0, "1:1@0");
    }

    private static void greatestTimeOfAllSources() {
        Run x = new Run("III: the greatest TIME of all ROWS").make("a=source 0", 1).late(5, -1);
        x.tell(2, 1, 1, 50, 1).tell(0, 1, 1, 44, 2).tell(0, 2, 2, 45, 3).tell(1, 3, 3, 44, 4);
        x.read(1, 1).count(7, 50).rows(0, 0).read(1, 1).count(2, 1).rows(0, 0).read(1, 1).count(2, 1).rows(0, 1);
        x.read(1, 1).count(2, 2).count(1, 4).count(7, 50);
    }

    private static void greatestTimeOfRowsReadAlone() {
        Run x = new Run("III: of ROWS that were READ ahead of it").make("a=source 0", 1).late(0, -1);
        x.tell(0, 1, 1, 5, 1).tell(0, 2, 2, 6, 2).tell(0, 3, 3, 9, 3).tell(0, 4, 4, 8, 4);
        x.read(1, 1).count(7, 5).read(1, 1).count(2, 0).count(7, 6).read(2, 2).count(2, 1).count(7, 9);
        x.table(0, "1:1@5 2:2@6 3:3@9");
    }

    private static void greatestTimeIsNotLowered() {
        Run x = new Run("III: the greatest, not the latest TIME").make("a=source 0", 1).late(10, -1);
        x.tell(0, 1, 1, 100, 1).tell(0, 2, 2, 90, 2).tell(0, 3, 3, 80, 3).tell(0, 4, 4, 85, 4).tell(0, 5, 5, 89, 5);
        x.read(5, 5).count(2, 3).count(7, 100).table(0, "1:1@100 2:2@90");
    }

    private static void lateRowsAreRead() {
        Run x = new Run("III: a ROW that is LATE is READ").make("a=source 0", 1).late(0, -1);
        x.tell(0, 1, 1, 5, 1).tell(0, 1, 1, 4, 2).tell(0, 1, 1, 3, 3).read(2, 2).status(0).count(1, 2).count(2, 1);
        x.mark(1).count(8, 2).read(5, 1).status(0).count(2, 2).count(5, 0).fall(2).count(2, 1).read(1, 1).count(2, 2);
    }

    private static void readOfItsRange() {
        Run x = new Run("8: 0 .. 150; -1").make("a=source 0", 1).tells(3, 0, 1, 1, 1);
        x.read(-1, -1).status(-1).count(1, 0).read(0, 0).status(0).count(1, 0);
        x.read(151, -1).status(-1).count(1, 0).rows(0, 0).read(150, 3).status(0).count(1, 3);
        x.read(151, -1).status(-1).read(-1, -1).status(-1).count(1, 3);
        x.read(Integer.MIN_VALUE, -1).status(-1).read(Integer.MAX_VALUE, -1).status(-1).count(1, 3).rows(0, 3);
        Run y = new Run("8: 150 of 150").make("a=source 0", 1).tells(150, 0, 1, 1, 1);
        y.read(149, 149).count(1, 149).fall(0).read(150, 150).count(1, 150).rows(0, 150).count(5, 150);
    }

    private static void readAsThereAre() {
        Run x = new Run("8: as there are").make("a=source 0", 1).tells(5, 0, 1, 1, 1);
        x.read(4, 4).count(1, 4).read(2, 1).status(0).count(1, 5).read(1, 0).status(0).count(1, 5);
        x.tells(2, 0, 1, 1, 1).read(2, 2).count(1, 7).read(150, 0).status(0).rows(0, 7);
    }

    private static void readWithoutTables() {
        Run x = new Run("8: -6 no TABLES").tell(0, 1, 1, 1, 1).read(0, -6).status(-6).read(1, -6).status(-6);
        x.count(1, 0).count(7, -1).put("a=source 3").tables(-6).read(1, -6).status(-6);
        x.make("a=source 0", 1).read(1, 1).status(0);
    }

    private static void outsOfItsRange() {
        Run x = new Run("13: UNSAID without").out(-1, 0, 0).out(0, 0, Run.UNSAID).out(-1, 1, Run.UNSAID);
        x.make(A + "b=sum a", 2).tell(0, 3, 4, 5, 1).tell(0, 3, 6, 5, 2).read(1, 1).out(-1, 0, 0);
        x.out(0, 0, Run.UNSAID).read(1, 1).mark(3).out(-1, 0, 3);
        x.out(0, 0, 3).out(0, 1, 4).out(0, 2, 5).out(0, 3, 1).out(0, 4, Run.UNSAID).out(0, -1, Run.UNSAID);
        x.out(1, 0, 3).out(1, 1, 4).out(1, 2, 5).out(1, 3, -1).out(2, 1, 10).out(2, 3, 1).out(2, 4, Run.UNSAID);
        x.out(3, 0, Run.UNSAID).out(3, 3, Run.UNSAID).out(-2, 0, Run.UNSAID);
        x.out(-1, 1, Run.UNSAID).out(-1, 2, Run.UNSAID).out(-1, 3, Run.UNSAID).out(-1, -1, Run.UNSAID);
        int[] far = {Integer.MIN_VALUE, Integer.MAX_VALUE};
        for (int n : far) {
            x.out(n, 0, Run.UNSAID).out(n, 3, Run.UNSAID).out(0, n, Run.UNSAID).out(-1, n, Run.UNSAID);
        }
        x.status(0).late(-1, -1).out(-1, 0, 0).out(0, 0, Run.UNSAID);
    }

    private static void changesInTheirOrder() {
        // a row of key 31 is one of key 0 too, by rekey: 0 goes ahead of 31 among those no longer, and the new ones
        Run x = new Run("III: no longer, then new, each sort by KEY");
        x.make(A + "b=ever a;c=sum b;d=rekey c 1;e=join c d", 5);
        x.tell(0, 31, 1, 1, 1).tell(0, 0, 10, 1, 2).tell(0, 30, 100, 1, 3).tell(0, 31, 1000, 1, 4);
        x.read(3, 3).table(4, "0:11@0 31:101@0").mark(2);
        x.read(1, 1).count(5, 4).mark(6).outs("+0:11@0 +31:101@0 -0:11@0 -31:101@0 +0:1011@0 +31:1101@0");
        Run y = new Run("III: by KEY, then TIME, then VALUE").make(A + "b=ever a;c=sum b;d=join a c", 4);
        y.tell(0, 3, 5, 9, 1).tell(0, 3, 7, 2, 2).tell(0, 3, -20, 9, 3).read(2, 2).mark(4);
        y.outs("+3:10@9 -3:10@9 +3:19@2 +3:17@9");
        y.read(1, 1).mark(9);
        y.outs("+3:10@9 -3:10@9 +3:19@2 +3:17@9 -3:19@2 -3:17@9 +3:-1@2 +3:-28@9 +3:-3@9");
    }

    private static void changesLessOften() {
        Run x = new Run("III: ROWS that it has no longer (or less often)").make(A + "b=sum a;c=join a b", 3);
        x.tell(0, 3, 1, 0, 1).tell(0, 3, 1, 0, 2).tell(0, 3, 2, 0, 3).tell(0, 3, -1, 0, 4).read(3, 3);
        x.table(2, "3:5@0 3:5@0 3:6@0").mark(9).count(5, 0).read(1, 1).table(2, "3:2@0 3:4@0 3:4@0 3:5@0").count(5, 5);
        x.mark(14).outs("+3:2@0 -3:2@0 +3:3@0 +3:3@0 -3:3@0 -3:3@0 +3:5@0 +3:5@0 +3:6@0 "
            + "-3:5@0 -3:6@0 +3:2@0 +3:4@0 +3:4@0");
    }

    private static void changesThatAreNone() {
        Run x = new Run("III: no CHANGE of THE ANSWER").make(A + "b=max a", 2);
        x.tell(0, 3, 5, 1, 1).tell(0, 3, 5, 1, 2).tell(0, 3, 4, 1, 3).tell(1, 3, 9, 1, 4).tell(0, 3, 6, 1, 5);
        x.read(1, 1).count(5, 1).read(3, 3).count(5, 1).mark(1).read(1, 1).count(5, 2).mark(3);
        x.outs("+3:5@1 -3:5@1 +3:6@1");
    }

    private static void markWithoutTables() {
        Run x = new Run("9: -6 no TABLES").mark(-6).status(-6).count(8, 0).tell(0, 1, 1, 1, 1).mark(-6).status(-6);
        x.count(8, 0).out(-1, 0, 0).make("a=source 0", 1).read(1, 1).mark(1).status(0).count(8, 1);
    }

    private static void markOfNothing() {
        Run x = new Run("9: a MARK of nothing").make("a=source 0", 1).mark(0).status(0).count(8, 0).out(-1, 0, 0);
        x.tell(0, 1, 1, 1, 1).read(1, 1).mark(1).mark(1).status(0).count(8, 1).outs("+1:1@1");
    }

    private static void markKeeps() {
        Run x = new Run("III: a MARK: how far it is READ, the greatest TIME, what TABLES have").late(5, -1);
        x.make(A + "b=ever a;c=sum b", 3).tell(0, 1, 1, 10, 1).tell(0, 1, 2, 4, 2).tell(0, 1, 4, 20, 3).tell(0, 1, 8, 9, 4);
        x.read(2, 2).count(8, 0).mark(1).count(8, 2).count(5, 0);
        x.read(2, 2).count(1, 4).count(2, 2).count(7, 20).count(8, 2).count(5, 2).table(2, "1:5@0");
        x.fall(2).count(1, 2).count(2, 1).count(7, 10).count(8, 2).count(5, 0).table(0, "1:1@10").table(2, "1:1@0");
        // whether the next one is late comes by the greatest time that was kept
        x.tell(0, 9, 9, 6, 5).read(1, 1).count(2, 1).count(7, 20);
    }

    private static void theLatestMark() {
        Run x = new Run("III: as it was at the latest MARK").make("a=source 0", 1).tells(4, 0, 1, 1, 1);
        x.read(1, 1).mark(1).read(1, 1).mark(2).read(1, 1).fall(2).count(8, 2).rows(0, 2);
        x.read(2, 2).mark(4).fall(4).rows(0, 4).fall(4).rows(0, 4).read(1, 0).out(-1, 0, 4);
    }

    private static void fallWithoutTables() {
        Run x = new Run("10: -6 no TABLES").fall(-6).status(-6).tell(0, 1, 1, 1, 1).fall(-6).status(-6).count(0, 1);
        x.put("a=").tables(-6).fall(-6).status(-6).make("a=source 0", 1).fall(0).status(0);
    }

    private static void fallWithoutAMark() {
        Run x = new Run("III: at the beginning without one").make(A + "b=ever a", 2).late(0, -1);
        x.tell(0, 1, 1, 5, 1).tell(0, 1, 1, 4, 2).tell(0, 1, 1, 6, 3).fall(0).status(0).read(3, 3).count(2, 1).count(5, 2);
        x.fall(0).status(0).count(1, 0).count(2, 0).count(5, 0).count(7, -1).count(8, 0).rows(0, 0).rows(1, 0);
        x.fall(0).out(-1, 0, 0).read(3, 3).count(2, 1).table(1, "1:1@0 1:1@0").mark(2).outs("+1:1@0 +1:1@0");
    }

    private static void fallGivesBack() {
        Run x = new Run("III: all is as it was at the latest MARK").make(A + "b=sum a;c=last b;d=less a c;e=join a b", 5);
        x.tell(0, 1, 1, 1, 1).tell(0, 2, 2, 2, 2).tell(0, 1, 3, 1, 3).tell(0, 2, 4, 9, 4).read(2, 2).mark(2);
        String before = x.tell(0, 3, 3, 3, 5).seen();
        x.read(3, 3).count(5, 7).fall(2).sees(before).read(150, 3).count(1, 5).count(5, 7).fall(2).sees(before);
    }

    private static void fallLeavesTheRest() {
        Run x = new Run("III: a FALL leaves THE LOG, TAPE, HOSTS, LATENESS").make("a=source 0", 1).late(3, -1);
        x.tell(0, 1, 1, 1, 1).read(1, 1).mark(1).tell(0, 2, 2, 2, 2).host(4, true, 1).feed(0, 0, 0, 0, 0, 20).fall(1);
        x.count(0, 2).count(4, 2).count(6, 20).owns(4, 1).out(-1, 0, 1).late(-1, 3);
    }

    private static void eachIsOutOnce() {
        Run x = new Run("what is told outside goes out once each").make(A + "b=sum a", 2).tells(3, 0, 1, 1, 1);
        x.read(1, 1).mark(1).read(2, 2).count(5, 4).fall(1).count(5, 0).read(1, 1).fall(1).read(2, 2).count(5, 4).mark(5);
        x.fall(3).mark(5).outs("+1:1@1 -1:1@1 +1:2@1 -1:2@1 +1:3@1");
    }

    private static Run richly(String sentence) {
        Run x = new Run(sentence).make(A + "b=ever a", 2).late(2, -1).host(6, true, 0);
        x.tell(0, 1, 1, 9, 1).tell(0, 2, 2, 6, 2).tell(0, 3, 3, 9, 3).tell(0, 4, 4, 20, 4).read(2, 2).mark(1).read(1, 1);
        return x.count(1, 3).count(2, 1).count(5, 1).count(7, 9).count(8, 2).rows(0, 2).status(0);
    }

    private static void begunAnew(Run x, int tables) {
        x.status(0).count(0, 4).count(1, 0).count(2, 0).count(3, tables).count(4, 2).count(5, 0).count(7, -1).count(8, 0);
        x.out(-1, 0, 0).out(0, 0, Run.UNSAID).rows(0, 0).rows(tables - 1, 0).owns(0, 0).owns(6, 0).fall(0).rows(0, 0);
    }

    private static void takenTablesBeginAnew() {
        Run x = richly("III: tables() that is taken: nothing is READ any more, there is no MARK, no CHANGE").put(A + "b=sum a;");
        x.end(18, 18).tables(2);
        begunAnew(x, 2);
        x.read(150, 4).count(2, 1).rows(0, 3).mark(3).late(-1, 2);
        Run y = richly("III: tables() that is taken, of the same TEXT").put(A + "b=ever a").tables(2);
        begunAnew(y, 2);
        Run z = richly("III: tables() that is taken, of fewer TABLES").put("z=source 1").tables(1);
        begunAnew(z, 1);
        z.rows(1, -1).read(150, 4).rows(0, 0);
    }

    private static void takenLatenessBeginsAnew() {
        int[] ones = {0, 2, 10000, -1};
        for (int n : ones) {
            Run x = richly("III: late(" + n + "): nothing is READ any more, there is no MARK, no CHANGE").late(n, 2);
            begunAnew(x, 2);
            x.read(150, 4).count(2, n == 0 || n == 2 ? 1 : 0).late(-1, n);
        }
    }

    private static void countsOfTheirRange() {
        Run x = richly("17: NONE for others").feed(0, 0, 0, 0, 0, 20);
        x.count(-1, -1).count(0, 4).count(1, 3).count(2, 1).count(3, 2).count(4, 2).count(5, 1).count(6, 20).count(7, 9);
        x.count(8, 2).count(9, -1).count(Integer.MIN_VALUE, -1).count(Integer.MAX_VALUE, -1).status(0);
        Run y = new Run("17: the greatest TIME (NONE without), 0").count(7, -1).make("a=source 0", 1).count(7, -1);
        y.tell(1, 1, 1, 0, 1).count(7, -1).read(1, 1).count(7, 0).fall(0).count(7, -1).count(8, 0);
    }
}
