/** The bounds of Terms IV, and of promises 14 to 16: HOSTS that come and go, OWNERS of KEYS, what is MOVED. */
public final class HostBoundsTest {
    private HostBoundsTest() {
    }

    public static void main(String[] args) {
        hostZeroAlone();
        hostOfItsRange();
        hostTwice();
        theLastHost();
        allEightHosts();
        ownerOfItsRange();
        ownersByTheirRest();
        noTwoAreAlike();
        ownsOfItsRange();
        movedWithoutTables();
        movedWithoutRows();
        movedRowsOfAllTables();
        movedByOneThatGoes();
        movedAreNone();
        movedOfFullTables();
        hostsBehindOtherTables();
        Check.finish();
    }

    private static void hostZeroAlone() {
        Run x = new Run("IV: 0 alone at first").count(4, 1).owns(0, 0);
        for (int h = 1; h <= 7; h++) {
            x.owns(h, -1);
        }
        for (int key = 0; key <= 31; key++) {
            x.owner(key, 0);
        }
    }

    private static void hostOfItsRange() {
        Run x = new Run("14: HOSTS 0 .. 7; -1").host(-1, true, -1).status(-1).host(-1, false, -1).status(-1).count(4, 1);
        x.host(8, true, -1).status(-1).host(8, false, -1).status(-1).count(4, 1);
        x.host(Integer.MIN_VALUE, true, -1).host(Integer.MAX_VALUE, true, -1).host(32, true, -1).status(-1).count(4, 1);
        x.host(7, true, 0).status(0).count(4, 2).host(0, false, 0).status(0).count(4, 1).host(0, true, 0).count(4, 2);
    }

    private static void hostTwice() {
        Run x = new Run("14: -4 it is there, is not there");
        x.host(0, true, -4).status(-4).count(4, 1).owns(0, 0).host(7, false, -4).status(-4).count(4, 1).owns(7, -1);
        x.host(7, true, 0).status(0).host(7, true, -4).status(-4).count(4, 2).owns(7, 0);
        x.host(7, false, 0).status(0).host(7, false, -4).status(-4).count(4, 1).owns(7, -1);
    }

    private static void theLastHost() {
        Run x = new Run("14: -5 it is the last one").host(0, false, -5).status(-5).count(4, 1).owner(31, 0);
        x.host(7, true, 0).host(0, false, 0).status(0).count(4, 1).owner(0, 7).owner(31, 7);
        x.host(7, false, -5).status(-5).count(4, 1).owner(0, 7).owns(7, 0).owns(0, -1);
        x.host(0, false, -4).status(-4).host(3, true, 0).host(7, false, 0).status(0).host(3, false, -5).status(-5);
        x.owner(31, 3);
    }

    private static void allEightHosts() {
        Run x = new Run("IV: all of HOSTS 0 .. 7");
        for (int h = 1; h <= 7; h++) {
            x.host(h, true, 0).status(0).count(4, h + 1);
        }
        x.host(8, true, -1).status(-1).count(4, 8).host(7, true, -4).status(-4).count(4, 8);
        for (int h = 0; h <= 6; h++) {
            x.host(h, false, 0).status(0).count(4, 7 - h);
        }
        x.host(7, false, -5).status(-5).count(4, 1).owner(16, 7);
    }

    private static void ownerOfItsRange() {
        Run x = new Run("15: OWNER of a KEY; NONE").owner(-1, -1).owner(0, 0).owner(31, 0).owner(32, -1).status(0);
        x.owner(Integer.MIN_VALUE, -1).owner(Integer.MAX_VALUE, -1).host(7, true, 0).owner(-1, -1).owner(32, -1);
        x.owner(0, 7).owner(31, 0);
    }

    private static void ownersByTheirRest() {
        // with all hosts, of key 0: 3 5 7 9 11 13 15 17; of 31: 96 63 30 94 61 28 92 59
        Run x = new Run("IV: rest by 97, is greatest");
        for (int h = 1; h <= 7; h++) {
            x.host(h, true, 0);
        }
        x.owner(0, 7).owner(31, 0).host(7, false, 0).owner(0, 6).host(0, false, 0).owner(31, 3);
        // of key 23: 72 23 71 22 70 21 69 20; of key 11: 36 60 84 11 35 59 83 10
        x.owner(23, 2).owner(11, 2).host(2, false, 0).owner(23, 4).owner(11, 6).host(0, true, 0).owner(23, 0);
    }

    /** So the lower host of alike ones is never asked for: two hosts differ by less than 97 steps of a key. */
    private static void noTwoAreAlike() {
        int alike = 0;
        for (int key = 0; key <= 31; key++) {
            for (int h = 0; h <= 7; h++) {
                for (int g = 0; g < h; g++) {
                    alike += (key + 1) * (2 * h + 3) % 97 == (key + 1) * (2 * g + 3) % 97 ? 1 : 0;
                }
            }
        }
        Check.due("IV: the lower HOST of alike ones: how many are alike", alike, 0);
        for (int h = 1; h <= 7; h++) {
            for (int g = 0; g < h; g++) {
                pair(g, h);
            }
        }
    }

    private static void pair(int low, int high) {
        Run x = new Run("IV: OWNER of HOSTS " + low + " and " + high).host(high, true, 0);
        if (low != 0) {
            x.host(low, true, 0).host(0, false, 0);
        }
        for (int key = 0; key <= 31; key++) {
            boolean isHigh = (key + 1) * (2 * high + 3) % 97 > (key + 1) * (2 * low + 3) % 97;
            x.owner(key, isHigh ? high : low);
        }
    }

    /** A row of key 0 twice, and one of key 31, in each of two tables; the third has none. */
    private static Run sixRows(String sentence) {
        Run x = new Run(sentence).make("a=source 0;b=ever a;c=source 1", 3);
        return x.tell(0, 0, 5, 5, 1).tell(0, 0, 5, 5, 2).tell(0, 31, 5, 5, 3).read(3, 3);
    }

    private static void ownsOfItsRange() {
        Run x = sixRows("16: NONE for a HOST that is not there").owns(-1, -1).owns(0, 6).owns(1, -1).owns(7, -1).owns(8, -1);
        x.owns(Integer.MIN_VALUE, -1).owns(Integer.MAX_VALUE, -1).status(0).host(7, true, 4).owns(0, 2).owns(7, 4);
        x.host(1, true, 0).owns(1, 0).host(0, false, 2).owns(0, -1).owns(1, 2).owns(7, 4);
    }

    private static void movedWithoutTables() {
        new Run("14: MOVED without TABLES").tell(0, 0, 1, 1, 1).host(7, true, 0).status(0).owner(0, 7).owns(7, 0);
    }

    private static void movedWithoutRows() {
        Run x = new Run("14: MOVED of no ROWS").make("a=source 0", 1).tell(0, 0, 1, 1, 1).host(7, true, 0).status(0);
        x.owns(7, 0).read(1, 1).owns(7, 1).fall(0).owns(7, 0).host(7, false, 0).status(0);
    }

    private static void movedRowsOfAllTables() {
        Run x = sixRows("IV: MOVED are the ROWS of all TABLES").host(7, true, 4).status(0).owns(7, 4).owns(0, 2);
        x.tell(1, 0, 1, 1, 4).read(1, 1).owns(7, 5).host(7, false, 5).owns(0, 7).host(7, true, 5).rows(0, 3).rows(2, 1);
    }

    private static void movedByOneThatGoes() {
        Run x = sixRows("IV: MOVED, as a HOST goes").host(3, true, 4).host(7, true, 4).owns(0, 2).owns(3, 0).owns(7, 4);
        x.host(3, false, 0).status(0).host(3, true, 0).host(7, false, 4).owns(3, 4).host(0, false, 2).owns(3, 6);
        x.host(0, true, 2).owns(0, 2);
    }

    private static void movedAreNone() {
        Run x = sixRows("IV: none is MOVED, if it is refused").host(0, false, -5).owns(0, 6).host(0, true, -4).owns(0, 6);
        x.host(8, true, -1).owns(0, 6).host(7, false, -4).owns(0, 6).owner(0, 0).count(4, 1).rows(0, 3).rows(1, 3);
    }

    private static void movedOfFullTables() {
        Run x = new Run("IV: MOVED of 12 TABLES, most of them of 400 ROWS").make("a=source 0;b=join a a;c=plus b 1;d=plus b 1;"
            + "e=plus b 1;f=plus b 1;g=plus b 1;h=plus b 1;i=plus b 1;j=plus b 1;k=plus b 1;l=plus b 1", 12);
        x.tells(20, 0, 0, 1, 1).read(20, 20).owns(0, 4420).host(7, true, 4420).status(0).owns(7, 4420).owns(0, 0);
        x.host(3, true, 0).host(7, false, 4420).owns(3, 4420);
    }

    private static void hostsBehindOtherTables() {
        Run x = sixRows("III: HOSTS stay, as TABLES begin anew").host(7, true, 4).mark(0).fall(3).count(4, 2).owns(7, 4);
        x.late(5, -1).count(4, 2).owns(7, 0).owner(0, 7).read(3, 3).owns(7, 4).make("a=source 0", 1).count(4, 2).owns(7, 0);
        x.read(3, 3).owns(7, 2).owns(0, 1).host(7, false, 2);
    }
}
