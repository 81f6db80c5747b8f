/** The bounds of "What a TABLE has" in Terms II, and of promises 11 and 12: rows and row. */
public final class MakingBoundsTest {
    private static final String A = "a=source 0;";
    private static final String AB = "a=source 0;b=source 1;";

    private MakingBoundsTest() {
    }

    public static void main(String[] args) {
        aRowAsOftenAsItIsThere();
        sourceHasItsOwn();
        sourceHasWhatWasRead();
        whereIsBelow();
        whereIsAbove();
        whereIsLike();
        whereBeyondAnyRow();
        plusAndTimesOfNothing();
        rekeyWrapsAround();
        windowAtItsEdges();
        everAtItsEdges();
        gatheringNoRows();
        gatheringByKeyAndTime();
        sumThatIsNothing();
        countOfLikeRows();
        maxOfRowsBelowZero();
        lastByTimeThenValue();
        joinWithNone();
        joinOfEachWithEach();
        joinTakesTheGreaterTime();
        lessWithNone();
        lessByKeysAlone();
        lessTakesBack();
        oneTableTwice();
        keyZeroAlone();
        theLowestRow();
        theGreatestRow();
        rowsOfATable();
        rowOfATable();
        orderOfRows();
        Check.finish();
    }

    /** The answer of a text has those rows, of some that are told: source, key, value, time for each. */
    private static Run has(String sentence, String text, String want, int... told) {
        Run x = new Run(sentence + ", of \"" + text + "\"").put(text);
        int tables = text.split(";").length;
        x.tables(tables).status(0);
        for (int i = 0; i + 3 < told.length; i += 4) {
            x.tell(told[i], told[i + 1], told[i + 2], told[i + 3], i / 4 + 1);
        }
        return x.read(150, told.length / 4).status(0).table(tables - 1, want);
    }

    private static void aRowAsOftenAsItIsThere() {
        int[] thrice = {0, 4, 5, 6, 0, 4, 5, 6, 0, 4, 5, 6};
        String sentence = "II: a ROW as often as it is there";
        has(sentence, "a=source 0", "4:5@6 4:5@6 4:5@6", thrice).count(5, 3);
        has(sentence, A + "b=where a key=4", "4:5@6 4:5@6 4:5@6", thrice);
        has(sentence, A + "b=plus a 1", "4:6@6 4:6@6 4:6@6", thrice);
        has(sentence, A + "b=times a 0", "4:0@6 4:0@6 4:0@6", thrice);
        has(sentence, A + "b=rekey a 1", "5:5@6 5:5@6 5:5@6", thrice);
        has(sentence, A + "b=window a 4", "4:5@4 4:5@4 4:5@4", thrice);
        has(sentence, A + "b=ever a", "4:5@0 4:5@0 4:5@0", thrice);
        has(sentence, AB + "c=less a b", "4:5@6 4:5@6 4:5@6", thrice);
        has(sentence, A + "b=times a 0;c=window b 1000", "4:0@0 4:0@0", 0, 4, 5, 6, 0, 4, 9, 7);
    }

    private static void sourceHasItsOwn() {
        int[] each = {0, 1, 1, 1, 1, 2, 2, 2, 2, 3, 3, 3};
        has("II: of that SOURCE", "a=source 0", "1:1@1", each).count(1, 3).count(7, 3);
        has("II: of that SOURCE", "a=source 1", "2:2@2", each).count(1, 3).count(7, 3);
        has("II: of that SOURCE", "a=source 2", "3:3@3", each).count(1, 3).count(7, 3);
        has("II: of that SOURCE, in two TABLES", "a=source 2;b=source 2", "3:3@3", each).table(0, "3:3@3");
    }

    private static void sourceHasWhatWasRead() {
        Run x = new Run("II: source: what was READ and was not LATE").make("a=source 0", 1).late(0, -1);
        x.tell(0, 1, 1, 5, 1).tell(0, 2, 2, 5, 2).tell(0, 3, 3, 4, 3).tell(0, 4, 4, 6, 4).table(0, "");
        x.read(1, 1).table(0, "1:1@5").read(2, 2).table(0, "1:1@5 2:2@5").count(1, 3).count(2, 1);
        x.read(1, 1).table(0, "1:1@5 2:2@5 4:4@6");
    }

    private static void whereIsBelow() {
        int[] near = {0, 7, 7, 7, 0, 8, 8, 8, 0, 9, 9, 9};
        has("II: where <", A + "b=where a key<8", "7:7@7", near);
        has("II: where <", A + "b=where a value<8", "7:7@7", near);
        has("II: where <", A + "b=where a time<8", "7:7@7", near);
        has("II: where < -1000", A + "b=where a value<-1000", "", 0, 1, -1000, 1);
        has("II: where < -999", A + "b=where a value<-999", "1:-1000@1", 0, 1, -1000, 1, 0, 1, -999, 1);
        has("II: where < 0", A + "b=where a key<0", "", 0, 0, 0, 0);
    }

    private static void whereIsAbove() {
        int[] near = {0, 7, 7, 7, 0, 8, 8, 8, 0, 9, 9, 9};
        has("II: where >", A + "b=where a key>8", "9:9@9", near);
        has("II: where >", A + "b=where a value>8", "9:9@9", near);
        has("II: where >", A + "b=where a time>8", "9:9@9", near);
        has("II: where > 1000", A + "b=where a value>1000", "", 0, 1, 1000, 1);
        has("II: where > 1000", A + "b=where a time>1000", "1:1@1001 1:1@10000", 0, 1, 1, 1000, 0, 1, 1, 1001,
            0, 1, 1, 10000);
        has("II: where > 31", A + "b=where a key>31", "", 0, 31, 0, 0);
    }

    private static void whereIsLike() {
        int[] near = {0, 7, 7, 7, 0, 8, 8, 8, 0, 9, 9, 9};
        has("II: where =", A + "b=where a key=8", "8:8@8", near);
        has("II: where =", A + "b=where a value=8", "8:8@8", near);
        has("II: where =", A + "b=where a time=8", "8:8@8", near);
        has("II: where = 0", A + "b=where a value=-0", "3:0@3", 0, 3, 0, 3, 0, 3, 1, 3, 0, 3, -1, 3);
        has("II: where = -1000", A + "b=where a value=-1000", "3:-1000@3", 0, 3, -1000, 3, 0, 3, 1000, 3);
        has("II: where = 1000", A + "b=where a time=1000", "3:0@1000", 0, 3, 0, 1000, 0, 3, 0, 999, 0, 3, 0, 1001);
    }

    private static void whereBeyondAnyRow() {
        int[] edges = {0, 0, -1000, 0, 0, 31, 1000, 10000};
        String all = "0:-1000@0 31:1000@10000";
        has("II: where holds of all", A + "b=where a key>-1", all, edges);
        has("II: where holds of all", A + "b=where a key<32", all, edges);
        has("II: where holds of all", A + "b=where a time>-1000", all, edges);
        has("II: where holds of none", A + "b=where a key=32", "", edges);
        has("II: where holds of none", A + "b=where a time<0", "", edges);
        has("II: where of a greater VALUE", A + "b=times a 1000;c=where b value>1000", "31:1000000@10000", edges);
        has("II: where of a greater VALUE", A + "b=times a 1000;c=where b value<-1000", "0:-1000000@0", edges);
    }

    private static void plusAndTimesOfNothing() {
        int[] edges = {0, 1, -1000, 1, 0, 2, 0, 2, 0, 3, 1000, 3};
        has("II: plus 0", A + "b=plus a 0", "1:-1000@1 2:0@2 3:1000@3", edges);
        has("II: plus 1000", A + "b=plus a 1000", "1:0@1 2:1000@2 3:2000@3", edges);
        has("II: plus -1000", A + "b=plus a -1000", "1:-2000@1 2:-1000@2 3:0@3", edges);
        has("II: times 0", A + "b=times a 0", "1:0@1 2:0@2 3:0@3", edges);
        has("II: times 1", A + "b=times a 1", "1:-1000@1 2:0@2 3:1000@3", edges);
        has("II: times -1", A + "b=times a -1", "1:1000@1 2:0@2 3:-1000@3", edges);
        has("II: times -1000", A + "b=times a -1000", "1:1000000@1 2:0@2 3:-1000000@3", edges);
    }

    private static void rekeyWrapsAround() {
        int[] edges = {0, 0, 1, 1, 0, 1, 2, 2, 0, 30, 3, 3, 0, 31, 4, 4};
        has("II: rekey, rest by 32", A + "b=rekey a 0", "0:1@1 1:2@2 30:3@3 31:4@4", edges);
        has("II: rekey, rest by 32", A + "b=rekey a 1", "0:4@4 1:1@1 2:2@2 31:3@3", edges);
        has("II: rekey, rest by 32", A + "b=rekey a 31", "0:2@2 29:3@3 30:4@4 31:1@1", edges);
        has("II: rekey, rest by 32", A + "b=rekey a 2", "0:3@3 1:4@4 2:1@1 3:2@2", edges);
        has("II: rekey of rekey", A + "b=rekey a 31;c=rekey b 31;d=rekey c 2", "0:1@1 1:2@2 30:3@3 31:4@4", edges);
    }

    private static void windowAtItsEdges() {
        int[] edges = {0, 1, 1, 0, 0, 1, 2, 9, 0, 1, 3, 10, 0, 1, 4, 11, 0, 1, 5, 9999, 0, 1, 6, 10000};
        has("II: window 10", A + "b=window a 10", "1:1@0 1:2@0 1:3@10 1:4@10 1:5@9990 1:6@10000", edges);
        has("II: window 1", A + "b=window a 1", "1:1@0 1:2@9 1:3@10 1:4@11 1:5@9999 1:6@10000", edges);
        has("II: window 1000", A + "b=window a 1000", "1:1@0 1:2@0 1:3@0 1:4@0 1:5@9000 1:6@10000", edges);
        has("II: window 999", A + "b=window a 999", "1:1@0 1:2@0 1:3@0 1:4@0 1:5@9990 1:6@9990", edges);
        has("II: window 11", A + "b=window a 11", "1:1@0 1:2@0 1:3@0 1:4@11 1:5@9999 1:6@9999", edges);
    }

    private static void everAtItsEdges() {
        has("II: ever: TIME 0", A + "b=ever a", "1:-3@0 1:1@0 1:2@0", 0, 1, 1, 0, 0, 1, 2, 1, 0, 1, -3, 10000);
    }

    private static void gatheringNoRows() {
        String[] ones = {"sum", "count", "max", "last", "ever"};
        for (String one : ones) {
            has("II: of no ROWS no ROW", A + "b=" + one + " a", "").count(5, 0).mark(0);
            has("II: of no ROWS no ROW", A + "b=" + one + " a", "", 1, 1, 1, 1).count(5, 0).mark(0);
            has("II: of no ROWS no ROW", A + "b=less a a;c=" + one + " b", "", 0, 1, 1, 1).count(5, 0);
        }
    }

    private static void gatheringByKeyAndTime() {
        int[] near = {0, 3, 5, 7, 0, 3, -2, 7, 0, 3, 10, 8, 0, 4, 20, 7, 0, 3, 5, 7};
        has("II: for all ROWS of like KEY and TIME one ROW", A + "b=sum a", "3:8@7 3:10@8 4:20@7", near);
        has("II: for all ROWS of like KEY and TIME one ROW", A + "b=count a", "3:3@7 3:1@8 4:1@7", near);
        has("II: for all ROWS of like KEY and TIME one ROW", A + "b=max a", "3:5@7 3:10@8 4:20@7", near);
        int[] edges = {0, 0, 1, 0, 0, 0, 2, 10000, 0, 1, 4, 0, 0, 31, 8, 10000, 0, 31, 16, 10000};
        has("II: like KEY and TIME, at the edges", A + "b=sum a", "0:1@0 0:2@10000 1:4@0 31:24@10000", edges);
        has("II: like KEY and TIME, at the edges", A + "b=count a", "0:1@0 0:1@10000 1:1@0 31:2@10000", edges);
        has("II: like KEY and TIME, at the edges", A + "b=max a", "0:1@0 0:2@10000 1:4@0 31:16@10000", edges);
    }

    private static void sumThatIsNothing() {
        has("II: a sum of 0 is a ROW", A + "b=sum a", "3:0@7", 0, 3, 5, 7, 0, 3, -5, 7);
        has("II: a sum below 0", A + "b=sum a", "3:-2000@7", 0, 3, -1000, 7, 0, 3, -1000, 7);
    }

    private static void countOfLikeRows() {
        Run x = new Run("II: count: how many they are, to 150").make(A + "b=count a;c=count b;d=sum a", 4);
        x.tells(150, 0, 9, -1, 4).read(150, 150).table(1, "9:150@4").table(2, "9:1@4").table(3, "9:-150@4");
    }

    private static void maxOfRowsBelowZero() {
        has("II: the greatest, below 0", A + "b=max a", "3:-5@7", 0, 3, -6, 7, 0, 3, -5, 7, 0, 3, -1000, 7);
        has("II: the greatest, alike", A + "b=max a", "3:4@7", 0, 3, 4, 7, 0, 3, 4, 7, 0, 3, -4, 7);
        has("II: the greatest of greatest", A + "b=times a 1000;c=times b 1000;d=max c", "3:1000000000@7",
            0, 3, 999, 7, 0, 3, 1000, 7, 0, 3, -1000, 7);
    }

    private static void lastByTimeThenValue() {
        has("II: last: the greatest TIME", A + "b=last a", "3:-9@8", 0, 3, 9, 7, 0, 3, -9, 8, 0, 3, 5, 0);
        has("II: last: of these the greatest VALUE", A + "b=last a", "3:-1@8", 0, 3, -1, 8, 0, 3, -9, 8, 0, 3, 5, 7);
        has("II: last: once", A + "b=last a", "3:2@8", 0, 3, 2, 8, 0, 3, 2, 8, 0, 3, 2, 8).count(5, 1);
        has("II: last: of each KEY", A + "b=last a", "0:1@0 1:2@10000 31:3@5", 0, 31, 3, 5, 0, 0, 1, 0, 0, 1, 2, 10000,
            0, 31, 9, 4);
    }

    private static void joinWithNone() {
        has("II: join with a TABLE of no ROWS", AB + "c=join a b", "", 0, 1, 1, 1);
        has("II: join of a TABLE of no ROWS", AB + "c=join a b", "", 1, 1, 1, 1);
        has("II: join of other KEYS", AB + "c=join a b", "", 0, 1, 1, 1, 1, 0, 1, 1, 1, 2, 1, 1, 0, 31, 1, 1);
        has("II: join of no ROWS", AB + "c=join a b", "");
    }

    private static void joinOfEachWithEach() {
        has("II: for each ROW of a and each of b", AB + "c=join a b", "3:11@0 3:12@0 3:12@0 3:13@0", 0, 3, 1, 0, 0, 3, 2, 0,
            1, 3, 10, 0, 1, 3, 11, 0);
        has("II: for each, though alike", AB + "c=join a b", "3:3@0 3:3@0 3:3@0 3:3@0 3:3@0 3:3@0", 0, 3, 1, 0, 0, 3, 1, 0,
            1, 3, 2, 0, 1, 3, 2, 0, 1, 3, 2, 0);
        has("II: of like KEY", AB + "c=join a b", "0:3@0 31:30@0", 0, 0, 1, 0, 0, 31, 10, 0, 1, 31, 20, 0, 1, 0, 2, 0);
    }

    private static void joinTakesTheGreaterTime() {
        has("II: the greater TIME", AB + "c=join a b", "3:3@10000", 0, 3, 1, 0, 1, 3, 2, 10000);
        has("II: the greater TIME", AB + "c=join b a", "3:3@10000", 0, 3, 1, 0, 1, 3, 2, 10000);
        has("II: the greater TIME, alike", AB + "c=join a b", "3:3@7", 0, 3, 1, 7, 1, 3, 2, 7);
        has("II: both VALUES, one below 0", AB + "c=join a b", "3:0@7", 0, 3, 1000, 7, 1, 3, -1000, 7);
    }

    private static void lessWithNone() {
        has("II: less a TABLE of no ROWS", AB + "c=less a b", "1:1@1 2:2@2", 0, 1, 1, 1, 0, 2, 2, 2);
        has("II: less of a TABLE of no ROWS", AB + "c=less a b", "", 1, 1, 1, 1);
        has("II: less itself", A + "b=less a a", "", 0, 1, 1, 1).count(5, 0);
    }

    private static void lessByKeysAlone() {
        has("II: of whose KEYS b has none", AB + "c=less a b", "0:1@1 30:4@4", 0, 0, 1, 1, 0, 1, 2, 2, 0, 31, 3, 3,
            0, 30, 4, 4, 1, 1, 9, 9, 1, 31, 8, 8, 1, 31, 8, 8, 1, 2, 7, 7);
        has("II: of whose KEYS b has none", AB + "c=less a b", "1:2@2", 0, 0, 1, 1, 0, 1, 2, 2, 1, 0, 0, 0);
    }

    private static void lessTakesBack() {
        Run x = new Run("II: less, as b has a KEY no longer").make(AB + "c=sum b;d=where c value>0;e=less a d", 5);
        x.tell(0, 6, 1, 1, 1).tell(1, 6, 5, 1, 2).tell(1, 6, -5, 1, 3).read(1, 1).table(4, "6:1@1");
        x.read(1, 1).table(4, "").read(1, 1).table(4, "6:1@1").mark(3).outs("+6:1@1 -6:1@1 +6:1@1");
    }

    private static void oneTableTwice() {
        has("II: join of a TABLE with itself", A + "b=join a a", "3:2@5 3:3@6 3:3@6 3:4@6", 0, 3, 1, 5, 0, 3, 2, 6);
        has("II: join of a TABLE with what is made of it", A + "b=sum a;c=join b a", "3:4@5 3:5@5", 0, 3, 1, 5, 0, 3, 2, 5);
    }

    private static void keyZeroAlone() {
        String[] ones = {"where a key=0", "plus a 0", "times a 1", "rekey a 0", "window a 7", "ever a", "sum a", "max a",
            "last a"};
        for (String one : ones) {
            has("II: of KEY 0 and TIME 0 alone", A + "b=" + one, "0:5@0", 0, 0, 5, 0).count(5, 1).owns(0, 2);
        }
        has("II: of KEY 0 and TIME 0 alone", A + "b=count a", "0:1@0", 0, 0, 5, 0).count(5, 1);
        has("II: of KEY 0 and TIME 0 alone", A + "b=join a a", "0:10@0", 0, 0, 5, 0).count(5, 1);
        has("II: of KEY 0 and TIME 0 alone", AB + "c=less a b", "0:5@0", 0, 0, 5, 0).count(5, 1);
        has("II: of KEY 0 and TIME 0 alone", AB + "c=less a b", "", 0, 0, 5, 0, 1, 0, 0, 0).count(5, 2);
        has("II: of KEY 0, two TIMES", A + "b=last a", "0:-5@1", 0, 0, 5, 0, 0, 0, -5, 1).count(5, 3);
    }

    /** A row goes unchanged through each of these, in its order and as a change. */
    private static void edgeRow(String sentence, String want, int key, int value, int time) {
        String[] ones = {"where c key=" + key, "plus c 0", "times c 1", "rekey c 0", "window c 1", "sum c", "max c", "last c",
            "less c e"};
        for (String one : ones) {
            Run x = new Run(sentence + ", " + one);
            x.make("a=source 0;b=times a 1000;c=times b 1000;d=source 1;e=where d key=9;f=" + one, 6);
            x.tell(0, key, value, time, 1).tell(1, key, 1, time, 2).read(1, 1);
            x.status(0).table(2, want).table(5, want).count(5, 1).read(1, 1).count(5, 1).table(5, want).mark(1);
            x.outs("+" + want).fall(2).table(5, want).owns(0, 5);
        }
        Run x = new Run(sentence + ", no longer").make("a=source 0;b=times a 1000;c=times b 1000;d=source 1;e=less c d", 5);
        x.tell(0, key, value, time, 1).tell(0, key, value, time, 2).tell(1, key, 1, time, 3).read(2, 2);
        x.table(4, want + " " + want).count(5, 2).read(1, 1).table(4, "").count(5, 4).mark(4);
        x.outs("+" + want + " +" + want + " -" + want + " -" + want);
    }

    private static void theLowestRow() {
        edgeRow("I: the lowest ROW of all", "0:-1000000000@0", 0, -1000, 0);
    }

    private static void theGreatestRow() {
        edgeRow("I: the greatest ROW of all", "31:1000000000@10000", 31, 1000, 10000);
    }

    private static void rowsOfATable() {
        Run x = new Run("11: how many ROWS a TABLE has; NONE").rows(0, -1).rows(-1, -1).status(0);
        x.make(AB + "c=join a b", 3).rows(0, 0).rows(2, 0).rows(3, -1).rows(-1, -1);
        x.tell(0, 1, 1, 1, 1).tell(1, 1, 1, 1, 2).read(1, 1).rows(0, 1).rows(1, 0).rows(2, 0).read(1, 1).rows(2, 1);
        x.rows(3, -1).rows(-1, -1).rows(12, -1).rows(Integer.MIN_VALUE, -1).rows(Integer.MAX_VALUE, -1).status(0);
        x.make("a=source 0", 1).rows(0, 0).rows(1, -1).rows(2, -1);
    }

    private static void rowOfATable() {
        Run x = new Run("12: UNSAID without").row(0, 0, 0, Run.UNSAID).row(-1, 0, 0, Run.UNSAID).status(0);
        x.make(A + "b=plus a 1", 2).row(0, 0, 0, Run.UNSAID).tell(0, 3, 4, 5, 1).tell(0, 6, 7, 8, 2).read(2, 2);
        x.row(0, 0, 0, 3).row(0, 0, 1, 4).row(0, 0, 2, 5).row(0, 0, 3, Run.UNSAID).row(0, 0, -1, Run.UNSAID);
        x.row(1, 1, 0, 6).row(1, 1, 1, 8).row(1, 1, 2, 8).row(1, 1, 3, Run.UNSAID).row(1, 1, -1, Run.UNSAID);
        x.row(1, 2, 0, Run.UNSAID).row(1, -1, 0, Run.UNSAID).row(2, 0, 0, Run.UNSAID).row(-1, 0, 0, Run.UNSAID);
        int[] far = {Integer.MIN_VALUE, Integer.MAX_VALUE};
        for (int n : far) {
            x.row(n, 0, 0, Run.UNSAID).row(0, n, 0, Run.UNSAID).row(0, 0, n, Run.UNSAID);
        }
        x.fall(0).row(0, 0, 0, Run.UNSAID).status(0);
    }

    private static void orderOfRows() {
        has("12: by KEY, then TIME, then VALUE", "a=source 0", "0:1000@10000 1:-1000@0 1:1000@0 1:-1000@1 1:0@1 1:0@1 31:0@0",
            0, 31, 0, 0, 0, 1, 0, 1, 0, 1, 1000, 0, 0, 1, -1000, 1, 0, 0, 1000, 10000, 0, 1, -1000, 0, 0, 1, 0, 1);
        has("12: by VALUE, turned by times", A + "b=times a -1", "1:-2@5 1:-1@5 1:0@5 1:1@5", 0, 1, -1, 5, 0, 1, 0, 5,
            0, 1, 1, 5, 0, 1, 2, 5);
        has("12: by TIME, turned by ever", A + "b=ever a", "1:1@0 1:2@0 1:3@0", 0, 1, 3, 1, 0, 1, 2, 2, 0, 1, 1, 3);
        Run x = new Run("12: the order of 150 ROWS").make(A + "b=times a -1", 2);
        for (int i = 0; i < 150; i++) {
            x.tell(0, 0, i * 67 % 150, 0, i + 1);
        }
        x.read(150, 150);
        for (int i = 0; i < 150; i++) {
            x.row(0, i, 1, i).row(1, i, 1, i - 149);
        }
    }
}
