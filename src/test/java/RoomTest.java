import java.lang.management.ManagementFactory;

/** All calls of a run live in one room: an object may be made of some thousand elements, its calls make nothing. */
public final class RoomTest {
    private static final com.sun.management.ThreadMXBean BEAN =
        (com.sun.management.ThreadMXBean) ManagementFactory.getThreadMXBean();
    /** Above what asking itself makes, far below what a run could make if each call made something. */
    private static final long LITTLE = 4096;

    private RoomTest() {
    }

    public static void main(String[] args) {
        dearestRun();
        long made = bytes();
        TableStreams x = new TableStreams();
        made = bytes() - made;
        Check.due("an object is small: " + made, made < 300_000 ? 1 : 0, 1);
        Check.due("it is there", x.count(4), 1);
        long runs = dearestRun();
        Check.due("calls make nothing: " + runs, runs < LITTLE ? 1 : 0, 1);
        long texts = manyTexts();
        Check.due("texts make nothing: " + texts, texts < LITTLE ? 1 : 0, 1);
        Check.finish();
    }

    private static long bytes() {
        return BEAN.getThreadAllocatedBytes(Thread.currentThread().getId());
    }

    /** The log is full, many tables are near 400 rows, and it is read anew as often as calls allow. */
    private static long dearestRun() {
        TableStreams x = new TableStreams();
        Check.make(x, "a=source 0;b=source 1;c=join a b;d=times c -3;e=window d 7;f=rekey e 5;g=ever f;h=times g -1;"
            + "i=plus h 4;j=window f 9;k=less j g;l=sum i");
        for (int i = 0; i < 150; i++) {
            x.tell(i % 2, i * 7 % 16, i * 37 % 999, i * 91 % 9999);
        }
        long before = bytes();
        int calls = 167;
        int read = 0;
        while (calls + 9 < 512) {
            read = x.read(150);
            x.fall();
            calls += 2;
        }
        x.read(150);
        x.mark();
        x.host(3, true);
        x.owns(3);
        x.row(4, 3, 1);
        x.out(3, 2);
        x.status();
        long made = bytes() - before;
        Check.due("all rows are read", read, 150);
        return made;
    }

    private static long manyTexts() {
        TableStreams x = new TableStreams();
        long before = bytes();
        for (int i = 0; i < 250; i++) {
            // "a=source 1;b=ever  a", and now and then a text that can't be
            x.feed(0x613d736f, 0x75726365, 0x20313b62, 0x3d657665, i % 3 == 0 ? 0 : 0x72202061);
            x.tables();
        }
        return bytes() - before;
    }
}
