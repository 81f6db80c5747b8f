/** Each promise of the document in turn: ordinary inputs, the edges it names, and wrong inputs. */
public final class PromisesTest {
    private static final int UNSAID = -2_000_000_000;

    private PromisesTest() {
    }

    public static void main(String[] args) {
        newObject();
        tell();
        feed();
        end();
        tables();
        tokens();
        fault();
        late();
        read();
        full();
        mark();
        fall();
        rows();
        makings();
        row();
        out();
        host();
        owner();
        owns();
        count();
        status();
        Check.finish();
    }

    /** Tables of a text and some rows of sources: source, key, value, time for each; all are read. */
    private static TableStreams run(String text, int... told) {
        TableStreams x = new TableStreams();
        Check.due("tables() > 0 of " + text, Check.make(x, text) > 0 ? 1 : 0, 1);
        for (int i = 0; i + 3 < told.length; i += 4) {
            x.tell(told[i], told[i + 1], told[i + 2], told[i + 3]);
        }
        Check.due("read of " + text, x.read(150), told.length / 4);
        return x;
    }

    private static void newObject() {
        TableStreams x = new TableStreams();
        Check.due("NONE", TableStreams.NONE, -1);
        int[] counts = {0, 0, 0, 0, 1, 0, 0, -1, 0};
        for (int what = 0; what < counts.length; what++) {
            Check.due("new: count(" + what + ")", x.count(what), counts[what]);
        }
        Check.due("new: fault()", x.fault(), -1);
        Check.due("new: status()", x.status(), 0);
        Check.due("new: rows(0)", x.rows(0), -1);
        Check.due("new: out(-1, 0)", x.out(-1, 0), 0);
        Check.due("new: owner(31)", x.owner(31), 0);
        Check.due("new: owns(0)", x.owns(0), 0);
        Check.due("new: owns(1)", x.owns(1), -1);
        Check.due("new: late(-1)", x.late(-1), -1);
    }

    private static void tell() {
        TableStreams x = new TableStreams();
        int[][] wrong = {{-1, 0, 0, 0}, {3, 0, 0, 0}, {0, -1, 0, 0}, {0, 32, 0, 0}, {0, 0, -1001, 0}, {0, 0, 1001, 0},
            {0, 0, 0, -1}, {0, 0, 0, 10001}, {Integer.MIN_VALUE, 0, 0, 0}, {0, Integer.MAX_VALUE, 0, 0}};
        for (int[] w : wrong) {
            Check.due("tell of what can't be", x.tell(w[0], w[1], w[2], w[3]), -1);
            Check.due("status of it", x.status(), -1);
        }
        Check.due("tell at the low edge", x.tell(0, 0, -1000, 0), 1);
        Check.due("status of it", x.status(), 0);
        Check.due("tell at the high edge", x.tell(2, 31, 1000, 10000), 2);
        for (int i = 3; i <= 150; i++) {
            Check.due("tell", x.tell(1, 1, 1, 1), i);
        }
        Check.due("the 151st tell", x.tell(1, 1, 1, 1), -5);
        Check.due("status of it", x.status(), -5);
        Check.due("the 151st tell, of what can't be", x.tell(3, 1, 1, 1), -1);
        Check.due("count(0)", x.count(0), 150);
    }

    private static void feed() {
        TableStreams x = new TableStreams();
        // the bytes of each number go highest first: this is "a=source 1;b=ever  a"
        Check.due("feed", x.feed(0x613d736f, 0x75726365, 0x20313b62, 0x3d657665, 0x72202061), 20);
        Check.due("tables", x.tables(), 2);
        for (int i = 1; i <= 15; i++) {
            Check.due("feed", x.feed(-1, 0, 1, Integer.MIN_VALUE, Integer.MAX_VALUE), 20 * i);
        }
        Check.due("feed beyond 300", x.feed(0, 0, 0, 0, 0), -1);
        Check.due("count(6)", x.count(6), 300);
        Check.due("end", x.end(281), 281);
        Check.due("feed beyond 300 by one", x.feed(0, 0, 0, 0, 0), -1);
        Check.due("end", x.end(280), 280);
        Check.due("feed to 300", x.feed(0, 0, 0, 0, 0), 300);
        Check.due("tables of bytes that are none", x.tables(), -6);
        Check.due("fault of it", x.fault(), 0);
    }

    private static void end() {
        TableStreams x = new TableStreams();
        Check.due("end(0) of an empty tape", x.end(0), 0);
        Check.due("end(1) of an empty tape", x.end(1), -1);
        x.feed(0, 0, 0, 0, 0);
        Check.due("end(-1)", x.end(-1), -1);
        Check.due("end(MIN)", x.end(Integer.MIN_VALUE), -1);
        Check.due("end(21)", x.end(21), -1);
        Check.due("end(20)", x.end(20), 20);
        Check.due("end(7)", x.end(7), 7);
        Check.due("end(8)", x.end(8), -1);
        Check.due("count(6)", x.count(6), 7);
        Check.due("feed behind it", x.feed(0, 0, 0, 0, 0), 27);
    }

    private static void tables() {
        TableStreams x = new TableStreams();
        Check.due("tables of an empty tape", x.tables(), -6);
        Check.due("fault of it", x.fault(), 0);
        Check.due("tables of blanks", Check.make(x, "   "), -6);
        Check.due("fault of it", x.fault(), 3);
        Check.due("the tape is empty then", x.count(6), 0);
        Check.due("tables", Check.make(x, "a=source 0;b=sum a"), 2);
        Check.due("the tape is empty then", x.count(6), 0);
        x.tell(0, 1, 2, 3);
        x.read(1);
        x.mark();
        Check.due("tables that can't be", Check.make(x, "a=source 0;b=sum c"), -6);
        Check.due("status of it", x.status(), -6);
        Check.due("they stay", x.count(3), 2);
        Check.due("what they have stays", Check.rows(x, 1), "1:2@3");
        Check.due("the mark stays", x.count(8), 1);
        Check.due("what is out stays", x.out(-1, 0), 1);
        x.tell(0, 1, 2, 4);
        x.read(1);
        Check.due("one change waits", x.count(5), 1);
        Check.due("tables anew", Check.make(x, "a=source 0;b=plus a 1;c=less a a"), 3);
        Check.due("status of it", x.status(), 0);
        Check.due("nothing is read", x.count(1), 0);
        Check.due("no change waits", x.count(5), 0);
        Check.due("there is no mark", x.count(8), 0);
        Check.due("nothing is out", x.out(-1, 0), 0);
        Check.due("no greatest time", x.count(7), -1);
        Check.due("the log stays", x.count(0), 2);
        Check.due("no rows", x.rows(0) + x.rows(1) + x.rows(2), 0);
        Check.due("fall without a mark", x.fall(), 0);
        Check.due("read anew", x.read(9), 2);
        Check.due("rows anew", Check.rows(x, 1), "1:3@3 1:3@4");
        Check.due("twelve tables", Check.make(x, tables(12)), 12);
        Check.due("thirteen tables", Check.make(x, tables(13)), -6);
        Check.due("they stay", x.count(3), 12);
    }

    private static String tables(int n) {
        StringBuilder s = new StringBuilder("a=source 0");
        for (int t = 1; t < n; t++) {
            s.append(';').append((char) ('a' + t)).append("=ever ").append((char) ('a' + t - 1));
        }
        return s.toString();
    }

    private static void tokens() {
        String[] good = {"a=source0", "  a  =  source  2  ", "z=source 00001;y=window z 0001000", "a=source 1;b=join a a",
            "a=source 0;b=where a value<- 5", "a=source 0;b=where a key=-1000", "a=source 0;b=where a time>1000",
            "a=source 0;b=plus a-0", "a=source 0;b=times a1000", "a=source 0;b=rekey a31;c=rekey b 0",
            "a=source 0;b=window a1", "a=source 0;b=max a;c=last b;d=count c;e=less d a"};
        for (String text : good) {
            TableStreams x = new TableStreams();
            Check.due("tables() > 0 of " + text, Check.make(x, text) > 0 ? 1 : 0, 1);
            Check.due("fault() of " + text, x.fault(), -1);
        }
    }

    private static void fault() {
        String a = "a=source 0;";
        faultAt("a", 1);
        faultAt("a  ", 3);
        faultAt("a=", 2);
        faultAt("ab=source 0", 0);
        faultAt("A=source 0", 0);
        faultAt("1=source 0", 0);
        faultAt(";a=source 0", 0);
        faultAt("a:source 0", 1);
        faultAt("a==source 0", 2);
        faultAt("a=sources 0", 2);
        faultAt("a=sourc 0", 2);
        faultAt("a=xource 0", 2);
        faultAt("a=0", 2);
        faultAt("a=source", 8);
        faultAt("a=source 3", 9);
        faultAt("a=source -1", 9);
        faultAt("a=source 99999999999999999999", 9);
        faultAt("a=source 4294967296", 9);
        faultAt("a=source x", 9);
        faultAt("a=source 0 0", 11);
        faultAt("a=source 0,b=ever a", 10);
        faultAt("a=source\t0", 8);
        faultAt(a, 11);
        faultAt(a + " ", 12);
        faultAt(a + "a=source 1", 11);
        faultAt(a + "b=ever b", 18);
        faultAt(a + "b=ever c", 18);
        faultAt(a + "b=ever aa", 18);
        faultAt(a + "b=ever", 17);
        faultAt(a + "b=ever a;;", 20);
        faultAt(a + "b=ever 0", 18);
        faultAt(a + "b=sum a a", 19);
        faultAt(a + "b=join a", 19);
        faultAt(a + "b=join a b", 20);
        faultAt(a + "b=join c a", 18);
        faultAt(a + "b=less aa", 18);
        faultAt(a + "b=where a valu<1", 21);
        faultAt(a + "b=where a <1", 21);
        faultAt(a + "b=where a value", 26);
        faultAt(a + "b=where a value!1", 26);
        faultAt(a + "b=where a value<", 27);
        faultAt(a + "b=where a value<=1", 27);
        faultAt(a + "b=where a value<-", 28);
        faultAt(a + "b=where a value<--1", 28);
        faultAt(a + "b=where a value<1001", 27);
        faultAt(a + "b=where a value< - 1001", 30);
        faultAt(a + "b=where value a<1", 19);
        faultAt(a + "b=plus a", 19);
        faultAt(a + "b=plus a +1", 20);
        faultAt(a + "b=plus 1 a", 18);
        faultAt(a + "b=times a 1001", 21);
        faultAt(a + "b=times a 10000000000", 21);
        faultAt(a + "b=rekey a 32", 21);
        faultAt(a + "b=rekey a -1", 21);
        faultAt(a + "b=window a 0", 22);
        faultAt(a + "b=window a 1001", 22);
        faultAt(a + "b=window a -1", 22);
        faultAt(a + "b=\u00e1", 13);
        faultAt(a + "b\u0000=ever a", 12);
        faultAt(tables(12) + ";m=ever a", tables(12).length() + 1);
        faultAt(tables(12) + ";m", tables(12).length() + 1);
        faultAt(tables(12) + "; 7", tables(12).length() + 2);
        faultAt(tables(12) + ";", tables(12).length() + 1);
        TableStreams x = new TableStreams();
        Check.make(x, "b");
        Check.due("fault", x.fault(), 1);
        Check.due("fault stays as told", x.fault(), 1);
        Check.make(x, "b=source 0");
        Check.due("fault after tables that are", x.fault(), -1);
    }

    private static void faultAt(String text, int place) {
        TableStreams x = new TableStreams();
        Check.due("tables() of " + text, Check.make(x, text), -6);
        Check.due("fault() of " + text, x.fault(), place);
        Check.due("count(3) of " + text, x.count(3), 0);
    }

    private static void late() {
        TableStreams x = new TableStreams();
        Check.make(x, "a=source 0");
        x.tell(1, 0, 0, 100);
        x.tell(0, 1, 1, 90);
        x.tell(0, 2, 2, 89);
        x.tell(0, 3, 3, 110);
        x.tell(0, 4, 4, 100);
        x.tell(0, 5, 5, 99);
        Check.due("late(10)", x.late(10), -1);
        Check.due("read(2)", x.read(2), 2);
        Check.due("none is late at the edge", x.count(2), 0);
        Check.due("read(1)", x.read(1), 1);
        Check.due("one is late", x.count(2), 1);
        Check.due("read(9)", x.read(9), 3);
        Check.due("two are late", x.count(2), 2);
        Check.due("the greatest time", x.count(7), 110);
        Check.due("rows that are not late", Check.rows(x, 0), "1:1@90 3:3@110 4:4@100");
        x.mark();
        Check.due("late(10001)", x.late(10001), -5);
        Check.due("status of it", x.status(), -1);
        Check.due("late(-2)", x.late(-2), -5);
        Check.due("status of it", x.status(), -1);
        Check.due("nothing is done", x.count(1) + x.count(8) + x.out(-1, 0), 15);
        Check.due("late(0)", x.late(0), 10);
        Check.due("status of it", x.status(), 0);
        Check.due("nothing is read, marked, out", x.count(1) + x.count(8) + x.out(-1, 0) + x.rows(0), 0);
        Check.due("the tables stay", x.count(3), 1);
        Check.due("the log stays", x.count(0), 6);
        Check.due("read(9)", x.read(9), 6);
        Check.due("late by 0", Check.rows(x, 0), "3:3@110");
        Check.make(x, "a=source 0;b=ever a");
        Check.due("lateness stays with other tables", x.late(10000), 0);
        x.read(9);
        Check.due("late by 10000", x.count(2), 0);
        Check.due("late(-1)", x.late(-1), 10000);
        Check.due("late(-1)", x.late(-1), -1);
        x.read(9);
        Check.due("none is late", x.rows(0), 5);
        TableStreams y = new TableStreams();
        Check.due("late without tables", y.late(5), -1);
        Check.due("late again", y.late(5), 5);
    }

    private static void read() {
        TableStreams x = new TableStreams();
        Check.due("read(-1) without tables", x.read(-1), -1);
        Check.due("status of it", x.status(), -1);
        Check.due("read(0) without tables", x.read(0), -6);
        Check.due("status of it", x.status(), -6);
        Check.make(x, "a=source 0");
        Check.due("read(0)", x.read(0), 0);
        Check.due("status of it", x.status(), 0);
        Check.due("read(150) of none", x.read(150), 0);
        Check.due("read(151)", x.read(151), -1);
        Check.due("read(-1)", x.read(-1), -1);
        for (int i = 0; i < 5; i++) {
            x.tell(i % 2, i, i, i);
        }
        Check.due("read(2)", x.read(2), 2);
        Check.due("rows", Check.rows(x, 0), "0:0@0");
        Check.due("read(150)", x.read(150), 3);
        Check.due("rows", Check.rows(x, 0), "0:0@0 2:2@2 4:4@4");
        Check.due("read(1) of none", x.read(1), 0);
        Check.due("status of it", x.status(), 0);
    }

    private static void full() {
        // 20 rows of a key make 400 pairs
        TableStreams x = new TableStreams();
        Check.make(x, "a=source 0;b=join a a");
        for (int i = 0; i < 22; i++) {
            x.tell(i == 20 ? 1 : 0, 3, i, i);
        }
        Check.due("read to the edge", x.read(20), 20);
        Check.due("status at the edge", x.status(), 0);
        Check.due("rows at the edge", x.rows(1), 400);
        int waiting = x.count(5);
        Check.due("read over the edge", x.read(150), 1);
        Check.due("status over the edge", x.status(), -5);
        Check.due("rows stay", x.rows(1), 400);
        Check.due("rows of its table stay", x.rows(0), 20);
        Check.due("changes stay", x.count(5), waiting);
        Check.due("how far it is read", x.count(1), 21);
        Check.due("the greatest time", x.count(7), 20);
        Check.due("read again", x.read(1), 0);
        Check.due("status again", x.status(), -5);
        Check.due("read none", x.read(0), 0);
        Check.due("status of none", x.status(), 0);
        Check.due("fall", x.fall(), 0);
        Check.due("what was full once is read again", x.read(20), 20);
        Check.due("rows of it", x.rows(1), 400);

        // a late row makes no table larger
        TableStreams z = new TableStreams();
        z.late(5);
        Check.make(z, "a=source 0;b=join a a");
        for (int i = 0; i < 20; i++) {
            z.tell(0, 3, i, 100);
        }
        z.tell(0, 3, 1, 94);
        z.tell(0, 3, 1, 95);
        Check.due("read with a late one at the edge", z.read(150), 21);
        Check.due("status of it", z.status(), -5);

        beyond("a=source 0;b=times a 1000;c=times b 1000", 1000, 1);
        beyond("a=source 0;b=times a 1000;c=times b -1000", 1000, 1);
        beyond("a=source 0;b=times a 1000;c=times b 1000;d=plus c 1", 1000, 0);
        beyond("a=source 0;b=times a 1000;c=times b 1000;d=plus c -1", 1000, 1);
        beyond("a=source 0;b=times a 1000;c=times b 1000;d=plus c -1", -1000, 0);
        beyond("a=source 0;b=times a 1000;c=times b 1000;d=join c c", 501, 0);
        beyond("a=source 0;b=times a 1000;c=times b 1000;d=join c c", 500, 1);
        beyond("a=source 0;b=times a 1000;c=times b 1000;d=times c 1000", 1000, 0);
        beyond("a=source 0;b=times a 1000;c=times b 1000;d=where a key=9", 1000, 1);
        beyond("a=source 0;b=where a key=9;c=times a 1000;d=times c 1000;e=times d 2;f=ever b", 501, 0);

        TableStreams s = new TableStreams();
        Check.make(s, "a=source 0;b=times a 1000;c=times b 1000;d=sum c");
        s.tell(0, 1, 600, 1);
        s.tell(0, 2, 600, 1);
        s.tell(0, 1, 600, 1);
        Check.due("sum beyond", s.read(9), 2);
        Check.due("status of it", s.status(), -5);
    }

    private static void beyond(String text, int value, int read) {
        TableStreams x = new TableStreams();
        Check.make(x, text);
        x.tell(0, 1, value, 1);
        Check.due("read of " + text, x.read(1), read);
        Check.due("status of " + text, x.status(), read == 1 ? 0 : -5);
        Check.due("rows(0) of " + text, x.rows(0), read);
    }

    /** Each row of source 0 turns all 400 rows of the answer, none of which has its like among the new ones. */
    private static TableStreams turning() {
        TableStreams x = new TableStreams();
        Check.make(x, "a=source 0;b=source 1;c=ever a;d=sum c;e=join d b;f=join e a;g=join b b;h=join d g");
        for (int i = 0; i < 20; i++) {
            x.tell(1, 0, i, 0);
        }
        for (int i = 1; i <= 8; i++) {
            x.tell(0, 0, 100, i);
        }
        return x;
    }

    private static void mark() {
        TableStreams x = new TableStreams();
        Check.due("mark without tables", x.mark(), -6);
        Check.due("status of it", x.status(), -6);
        Check.make(x, "a=source 0");
        Check.due("mark of nothing", x.mark(), 0);
        Check.due("status of it", x.status(), 0);
        x.tell(0, 1, 1, 1);
        x.tell(0, 1, 1, 1);
        x.read(1);
        Check.due("count(5)", x.count(5), 1);
        Check.due("mark", x.mark(), 1);
        Check.due("count(5)", x.count(5), 0);
        Check.due("count(8)", x.count(8), 1);
        Check.due("mark again", x.mark(), 1);
        x.read(1);
        Check.due("mark", x.mark(), 2);
        Check.due("outs", Check.outs(x), "+1:1@1 +1:1@1");

        // each row of source 0 turns 400 rows: 400 new ones, then 800 changes a row
        TableStreams y = turning();
        Check.due("read", y.read(21), 21);
        Check.due("waiting", y.count(5), 400);
        Check.due("read to 3600", y.read(4), 4);
        Check.due("waiting", y.count(5), 3600);
        Check.due("read beyond 4000", y.read(2), 0);
        Check.due("status of it", y.status(), -5);
        Check.due("waiting stays", y.count(5), 3600);
        Check.due("the tables stay", y.row(3, 0, 1), 500);
        Check.due("mark", y.mark(), 3600);
        Check.due("read on", y.read(1), 1);
        Check.due("waiting", y.count(5), 800);
        Check.due("mark beyond 4000", y.mark(), -5);
        Check.due("status of it", y.status(), -5);
        Check.due("out stays", y.out(-1, 0), 3600);
        Check.due("waiting stays", y.count(5), 800);
        Check.due("the mark stays", y.count(8), 25);
        Check.due("fall", y.fall(), 25);
        Check.due("mark again", y.mark(), 3600);
        y.late(-1);
        Check.due("nothing is out", y.out(-1, 0), 0);
        Check.due("read", y.read(21), 21);
        Check.due("mark", y.mark(), 400);
        Check.due("read", y.read(4), 4);
        Check.due("waiting", y.count(5), 3200);
        Check.due("mark", y.mark(), 3600);
        Check.due("the last out", y.out(3599, 3), 1);

        exactly4000();
    }

    /** So many may wait, and be out. */
    private static void exactly4000() {
        TableStreams x = new TableStreams();
        Check.make(x, "a=source 0;b=source 1;c=sum a;d=join b b;e=join c d");
        // 10 rows make 100 pairs: 100 new ones, then 200 changes a row
        for (int i = 0; i < 10; i++) {
            x.tell(1, 0, 0, 0);
        }
        x.tell(0, 0, 1, 0);
        for (int i = 0; i < 19; i++) {
            x.tell(0, 0, 1, 0);
        }
        // one more key, with a hundred new rows to fill 4000
        for (int i = 0; i < 10; i++) {
            x.tell(1, 1, 0, 0);
        }
        x.tell(0, 1, 1, 0);
        x.tell(0, 1, 1, 0);
        Check.due("read", x.read(41), 41);
        Check.due("4000 wait", x.count(5), 4000);
        Check.due("status of it", x.status(), 0);
        Check.due("one more", x.read(1), 0);
        Check.due("status of it", x.status(), -5);
        Check.due("mark of 4000", x.mark(), 4000);
        Check.due("the last one's newness", x.out(3999, 3), 1);
        Check.due("the last one's key", x.out(3999, 0), 1);
        Check.due("no 4001st", x.out(4000, 0), UNSAID);
        Check.due("one more can be read now", x.read(1), 1);
        Check.due("but not be marked", x.mark(), -5);
        Check.due("fall", x.fall(), 41);
        Check.due("a mark without changes", x.mark(), 4000);
    }

    private static void fall() {
        TableStreams x = new TableStreams();
        Check.due("fall without tables", x.fall(), -6);
        Check.due("status of it", x.status(), -6);
        x.late(10);
        Check.make(x, "a=source 0;b=sum a");
        int[] times = {50, 50, 30, 90, 60, 80};
        for (int i = 0; i < times.length; i++) {
            x.tell(0, 1, i + 1, times[i]);
        }
        x.read(5);
        Check.due("fall without a mark", x.fall(), 0);
        Check.due("status of it", x.status(), 0);
        Check.due("nothing is read", x.count(1) + x.count(2) + x.count(5) + x.rows(0) + x.rows(1), 0);
        Check.due("no greatest time", x.count(7), -1);
        x.read(3);
        x.mark();
        String outs = Check.outs(x);
        Check.due("outs", outs, "+1:1@50 -1:1@50 +1:3@50");
        x.read(3);
        x.host(1, true);
        x.tell(0, 2, 2, 90);
        Check.due("late ones ahead of the fall", x.count(2), 2);
        Check.due("fall", x.fall(), 3);
        Check.due("late ones", x.count(2), 1);
        Check.due("greatest time", x.count(7), 50);
        Check.due("waiting", x.count(5), 0);
        Check.due("rows", Check.rows(x, 1), "1:3@50");
        Check.due("rows", Check.rows(x, 0), "1:1@50 1:2@50");
        Check.due("outs stay", Check.outs(x), outs);
        Check.due("the log stays", x.count(0), 7);
        Check.due("the hosts stay", x.count(4), 2);
        Check.due("fall again", x.fall(), 3);
        Check.due("read anew", x.read(150), 4);
        Check.due("mark", x.mark(), 6);
        Check.due("each is out once", Check.outs(x), outs + " +1:4@90 +1:6@80 +2:2@90");
    }

    private static void rows() {
        TableStreams x = run("a=source 0;b=ever a", 0, 1, 1, 1);
        Check.due("rows(-1)", x.rows(-1), -1);
        Check.due("rows(2)", x.rows(2), -1);
        Check.due("rows(MIN)", x.rows(Integer.MIN_VALUE), -1);
        Check.due("rows(MAX)", x.rows(Integer.MAX_VALUE), -1);
        Check.due("rows(1)", x.rows(1), 1);
    }

    private static void makings() {
        int[] told = {0, 1, 5, 7, 0, 1, 5, 7, 0, 1, -9, 12, 0, 31, 4, 5, 1, 1, 100, 9, 1, 2, 200, 3, 0, 2, 8, 0, 0, 2, 1, 0};
        String a = "1:5@7 1:5@7 1:-9@12 2:1@0 2:8@0 31:4@5";
        due("a=source 0", a, told);
        due("a=source 1", "1:100@9 2:200@3", told);
        due("a=source 2", "", told);
        due("a=source 0;b=where a key<2", "1:5@7 1:5@7 1:-9@12", told);
        due("a=source 0;b=where a key=2", "2:1@0 2:8@0", told);
        due("a=source 0;b=where a value>4", "1:5@7 1:5@7 2:8@0", told);
        due("a=source 0;b=where a value<-8", "1:-9@12", told);
        due("a=source 0;b=where a value=- 9", "1:-9@12", told);
        due("a=source 0;b=where a time>5", "1:5@7 1:5@7 1:-9@12", told);
        due("a=source 0;b=where a time=5", "31:4@5", told);
        due("a=source 0;b=where a time<5", "2:1@0 2:8@0", told);
        due("a=source 0;b=plus a 10", "1:15@7 1:15@7 1:1@12 2:11@0 2:18@0 31:14@5", told);
        due("a=source 0;b=plus a -10", "1:-5@7 1:-5@7 1:-19@12 2:-9@0 2:-2@0 31:-6@5", told);
        due("a=source 0;b=times a -2", "1:-10@7 1:-10@7 1:18@12 2:-16@0 2:-2@0 31:-8@5", told);
        due("a=source 0;b=times a 0", "1:0@7 1:0@7 1:0@12 2:0@0 2:0@0 31:0@5", told);
        due("a=source 0;b=rekey a 31", "0:5@7 0:5@7 0:-9@12 1:1@0 1:8@0 30:4@5", told);
        due("a=source 0;b=rekey a 0", a, told);
        due("a=source 0;b=window a 5", "1:5@5 1:5@5 1:-9@10 2:1@0 2:8@0 31:4@5", told);
        due("a=source 0;b=window a 1", a, told);
        due("a=source 0;b=window a 1000", "1:-9@0 1:5@0 1:5@0 2:1@0 2:8@0 31:4@0", told);
        due("a=source 0;b=ever a", "1:-9@0 1:5@0 1:5@0 2:1@0 2:8@0 31:4@0", told);
        due("a=source 0;b=sum a", "1:10@7 1:-9@12 2:9@0 31:4@5", told);
        due("a=source 0;b=ever a;c=sum b", "1:1@0 2:9@0 31:4@0", told);
        due("a=source 0;b=count a", "1:2@7 1:1@12 2:2@0 31:1@5", told);
        due("a=source 0;b=max a", "1:5@7 1:-9@12 2:8@0 31:4@5", told);
        due("a=source 0;b=last a", "1:-9@12 2:8@0 31:4@5", told);
        due("a=source 0;b=where a value=5;c=last b", "1:5@7", told);
        due("a=source 0;b=source 1;c=join a b", "1:105@9 1:105@9 1:91@12 2:201@3 2:208@3", told);
        due("a=source 0;b=source 1;c=join b a", "1:105@9 1:105@9 1:91@12 2:201@3 2:208@3", told);
        due("a=source 1;b=join a a", "1:200@9 2:400@3", told);
        due("a=source 0;b=source 1;c=less a b", "31:4@5", told);
        due("a=source 0;b=source 1;c=less b a", "", told);
        due("a=source 0;b=source 2;c=less a b", a, told);
        due("a=source 0;b=less a a", "", told);
        due("a=source 0;b=rekey a 31;c=source 1;d=less b c", "0:5@7 0:5@7 0:-9@12 30:4@5", told);
        due("a=source 1;b=last a", "1:100@9 2:200@3", told);
        due("b=source 0;a=ever b;c=rekey a 1;d=join a c", "2:-8@0 2:-1@0 2:6@0 2:6@0 2:13@0 2:13@0", told);
    }

    private static void due(String text, String want, int[] told) {
        TableStreams x = run(text, told);
        Check.due("rows of " + text, Check.rows(x, x.count(3) - 1), want);
    }

    private static void row() {
        TableStreams x = run("a=source 0;b=ever a", 0, 3, 9, 5, 0, 3, -9, 5, 0, 3, 0, 4, 0, 2, 1, 10000, 0, 3, 9, 5);
        Check.due("the order", Check.rows(x, 0), "2:1@10000 3:0@4 3:-9@5 3:9@5 3:9@5");
        int[][] none = {{0, 5, 0}, {0, -1, 0}, {0, 0, 3}, {0, 0, -1}, {2, 0, 0}, {-1, 0, 0}, {0, Integer.MAX_VALUE, 1},
            {Integer.MIN_VALUE, 0, 0}, {0, 0, Integer.MIN_VALUE}};
        for (int[] n : none) {
            Check.due("row without", x.row(n[0], n[1], n[2]), UNSAID);
        }
        Check.due("the last row", x.row(1, 4, 1), 9);
        Check.due("row without tables", new TableStreams().row(0, 0, 0), UNSAID);
    }

    private static void out() {
        TableStreams x = run("a=source 0;b=ever a;c=sum b", 0, 5, 1, 1, 0, 5, 2, 1, 0, 4, 3, 1, 1, 4, 1, 1, 0, 5, 0, 1);
        Check.due("nothing is out ahead of a mark", x.out(-1, 0), 0);
        Check.due("nothing is out ahead of a mark", x.out(0, 0), UNSAID);
        x.mark();
        Check.due("outs", Check.outs(x), "+5:1@0 -5:1@0 +5:3@0 +4:3@0");
        int[][] none = {{4, 0}, {-2, 0}, {-1, 1}, {-1, 3}, {-1, -1}, {0, 4}, {0, -1}, {Integer.MIN_VALUE, 0}};
        for (int[] n : none) {
            Check.due("out without", x.out(n[0], n[1]), UNSAID);
        }
        // rows that are there more than once: each time that is lost is a change, those that are lost come first
        TableStreams y = run("a=source 0;b=source 1;c=less a b;d=times b -1;e=join a d;f=rekey c 30;g=join f f",
            0, 3, 2, 1, 0, 3, 2, 1, 0, 2, 2, 1, 1, 3, 1, 1);
        y.mark();
        Check.due("outs", Check.outs(y),
            "+1:4@1 +1:4@1 +1:4@1 +1:4@1 +0:4@1 -1:4@1 -1:4@1 -1:4@1 -1:4@1");
        TableStreams z = run("a=source 0;b=ever a;c=count b;d=join a c", 0, 3, 2, 1, 0, 3, 2, 1, 0, 3, -5, 1, 0, 3, 9, 0);
        z.mark();
        Check.due("outs", Check.outs(z), "+3:3@1 -3:3@1 +3:4@1 +3:4@1 -3:4@1 -3:4@1 +3:-2@1 +3:5@1 +3:5@1 "
            + "-3:-2@1 -3:5@1 -3:5@1 +3:13@0 +3:-1@1 +3:6@1 +3:6@1");
    }

    private static void host() {
        TableStreams x = new TableStreams();
        Check.due("host(-1, true)", x.host(-1, true), -1);
        Check.due("host(8, false)", x.host(8, false), -1);
        Check.due("host(MIN, true)", x.host(Integer.MIN_VALUE, true), -1);
        Check.due("host(0, true)", x.host(0, true), -4);
        Check.due("status of it", x.status(), -4);
        Check.due("host(1, false)", x.host(1, false), -4);
        Check.due("host(0, false)", x.host(0, false), -5);
        Check.due("status of it", x.status(), -5);
        Check.due("host(7, true) without tables", x.host(7, true), 0);
        Check.due("status of it", x.status(), 0);
        Check.due("count(4)", x.count(4), 2);
        Check.due("host(0, false)", x.host(0, false), 0);
        Check.due("host(7, false)", x.host(7, false), -5);

        // weights of key 0: 3 + 2 h; of key 31: 96, 63, 30, 94, 61, 28, 92, 59
        TableStreams y = run("a=source 0;b=ever a;c=where a key=31", 0, 0, 1, 1, 0, 0, 2, 1, 0, 31, 1, 1);
        Check.due("host 3 comes", y.host(3, true), 4);
        Check.due("owns(3)", y.owns(3), 4);
        Check.due("host 2 comes", y.host(2, true), 0);
        Check.due("host 7 comes", y.host(7, true), 4);
        Check.due("host 0 goes", y.host(0, false), 3);
        Check.due("owner(31)", y.owner(31), 3);
        Check.due("host 7 goes", y.host(7, false), 4);
        Check.due("owner(0)", y.owner(0), 3);
    }

    private static void owner() {
        TableStreams x = new TableStreams();
        Check.due("owner(-1)", x.owner(-1), -1);
        Check.due("owner(32)", x.owner(32), -1);
        Check.due("owner(MAX)", x.owner(Integer.MAX_VALUE), -1);
        for (int hosts = 1; hosts < 256; hosts++) {
            for (int h = 0; h < 8; h++) {
                x.host(h, (hosts >> h & 1) == 1);
            }
            // a host can't go while it is the last one, so those that go are tried once more
            for (int h = 0; h < 8; h++) {
                x.host(h, (hosts >> h & 1) == 1);
            }
            for (int key = 0; key < 32; key++) {
                int best = -1;
                for (int h = 7; h >= 0; h--) {
                    if ((hosts >> h & 1) == 1 && (best < 0
                            || (key + 1) * (2 * h + 3) % 97 >= (key + 1) * (2 * best + 3) % 97)) {
                        best = h;
                    }
                }
                Check.due("owner(" + key + ") of hosts " + hosts, x.owner(key), best);
            }
            // an object is used for some calls only
            x = new TableStreams();
        }
    }

    private static void owns() {
        TableStreams x = run("a=source 0;b=ever a;c=join a b", 0, 0, 1, 1, 0, 0, 2, 1, 0, 31, 1, 1);
        Check.due("owns(0)", x.owns(0), 11);
        Check.due("owns(-1)", x.owns(-1), -1);
        Check.due("owns(8)", x.owns(8), -1);
        Check.due("owns(1)", x.owns(1), -1);
        Check.due("host(1, true)", x.host(1, true), 8);
        Check.due("owns(0)", x.owns(0), 3);
        Check.due("owns(1)", x.owns(1), 8);
        x.fall();
        Check.due("owns(1) of no rows", x.owns(1), 0);
    }

    private static void count() {
        TableStreams x = new TableStreams();
        Check.make(x, "a=source 0;b=ever a");
        x.late(5);
        x.tell(0, 1, 1, 20);
        x.tell(0, 1, 2, 10);
        x.tell(1, 1, 3, 30);
        x.tell(0, 1, 4, 40);
        x.read(2);
        x.mark();
        x.read(1);
        x.host(5, true);
        x.feed(0, 0, 0, 0, 0);
        int[] counts = {4, 3, 1, 2, 2, 0, 20, 30, 2, -1, -1};
        for (int what = 0; what < counts.length; what++) {
            Check.due("count(" + what + ")", x.count(what), counts[what]);
        }
        x.read(1);
        Check.due("count(5)", x.count(5), 1);
        Check.due("count(-1)", x.count(-1), -1);
        Check.due("count(MIN)", x.count(Integer.MIN_VALUE), -1);
        Check.due("count(MAX)", x.count(Integer.MAX_VALUE), -1);
    }

    private static void status() {
        TableStreams x = new TableStreams();
        x.mark();
        Check.due("status of mark", x.status(), -6);
        // calls without a code of their own leave it as it is
        x.rows(7);
        x.row(7, 0, 0);
        x.out(7, 0);
        x.owner(99);
        x.owns(99);
        x.count(99);
        x.fault();
        x.feed(0, 0, 0, 0, 0);
        x.end(99);
        x.end(0);
        Check.due("status stays", x.status(), -6);
        Check.due("status stays", x.status(), -6);
        x.tell(0, 0, 0, 0);
        Check.due("status of tell", x.status(), 0);
        x.end(99);
        x.rows(7);
        Check.due("status stays", x.status(), 0);
        x.tables();
        Check.due("status of tables", x.status(), -6);
        x.host(2, true);
        Check.due("status of host", x.status(), 0);
        x.fall();
        Check.due("status of fall", x.status(), -6);
        x.late(3);
        Check.due("status of late", x.status(), 0);
        x.read(3);
        Check.due("status of read", x.status(), -6);
        Check.make(x, "a=source 0");
        Check.due("status of tables", x.status(), 0);
    }
}
