/** The bounds of Terms II that are of the TEXT, and of promises 3 to 6: TAPE, TOKENS, NAMES, numbers, FAULT. */
public final class TextBoundsTest {
    private static final String A = "a=source 0;";

    private TextBoundsTest() {
    }

    public static void main(String[] args) {
        tapeOf300();
        feedBeyondByOne();
        bytesOfANumber();
        endOfTheTape();
        endCutsBytes();
        textOf300();
        textOf300WithAFault();
        emptyText();
        blanksAlone();
        tapeIsEmptyThen();
        blanksBetweenTokens();
        blanksOfOtherBytes();
        letters();
        digits();
        longestTokens();
        nameOfOneLetter();
        nameThatHasATable();
        nameThatHasNone();
        sourceNumber();
        rekeyNumber();
        windowNumber();
        numbers();
        numbersThatWrapAround();
        minusOfNumbersAlone();
        words();
        columnsAndSigns();
        faultAtTheEnd();
        faultIsTheFirst();
        twelveTables();
        theThirteenthsName();
        theLastIsTheAnswer();
        faultOfTheLatest();
        tablesStayWithAFault();
        Check.finish();
    }

    private static void taken(String sentence, String text, int tables) {
        Run x = new Run(sentence).put(text).tables(tables).status(0).fault(-1).count(3, tables).count(6, 0);
        x.rows(tables - 1, 0).rows(tables, -1);
    }

    /** The text can't be: the fault is told there, and the table that was there ahead stays with its row. */
    private static void refused(String sentence, String text, int place) {
        Run x = new Run(sentence + " \"" + text + "\"").make("z=source 1", 1).tell(1, 5, 6, 7, 1).read(1, 1);
        x.put(text).tables(-6).status(-6).fault(place).count(3, 1).count(6, 0).table(0, "5:6@7");
    }

    private static void tapeOf300() {
        Run x = new Run("3: NONE, if there would be more than 300");
        for (int bytes = 20; bytes <= 300; bytes += 20) {
            x.feed(0, 0, 0, 0, 0, bytes).count(6, bytes);
        }
        x.feed(0, 0, 0, 0, 0, -1).count(6, 300).feed(0, 0, 0, 0, 0, -1).count(6, 300).status(0).end(300, 300);
    }

    private static void feedBeyondByOne() {
        Run x = new Run("3: 280 bytes have room for twenty, 281 have not");
        for (int bytes = 20; bytes <= 300; bytes += 20) {
            x.feed(0, 0, 0, 0, 0, bytes);
        }
        x.end(281, 281).feed(0, 0, 0, 0, 0, -1).count(6, 281).end(280, 280).feed(0, 0, 0, 0, 0, 300).count(6, 300);
        x.end(299, 299).feed(0, 0, 0, 0, 0, -1).count(6, 299);
    }

    private static void bytesOfANumber() {
        Run x = new Run("3: four of each number, the highest first");
        x.feed(0x613d736f, 0x75726365, 0x20313b62, 0x3d657665, 0x72202061, 20).tables(2).status(0);
        // the twenty bytes are blanks but for one of them, which can't begin a table
        for (int i = 0; i < 20; i++) {
            int[] n = {0x20202020, 0x20202020, 0x20202020, 0x20202020, 0x20202020};
            n[i / 4] ^= 0xe0 << (24 - i % 4 * 8);
            x.feed(n[0], n[1], n[2], n[3], n[4], 20).tables(-6).fault(i);
        }
        x.feed(-1, -1, -1, -1, -1, 20).tables(-6).fault(0);
        x.feed(Integer.MIN_VALUE, 0, 0, 0, 0, 20).tables(-6).fault(0);
        x.feed(0x20202020, 0x2020207f, -1, -1, -1, 20).tables(-6).fault(7);
    }

    private static void endOfTheTape() {
        Run x = new Run("4: NONE, if it has not so many, or n is below 0");
        x.end(-1, -1).end(1, -1).end(0, 0).count(6, 0);
        x.feed(0, 0, 0, 0, 0, 20).end(21, -1).count(6, 20).end(20, 20).count(6, 20).end(-1, -1).count(6, 20);
        x.end(Integer.MIN_VALUE, -1).end(Integer.MAX_VALUE, -1).count(6, 20);
        x.end(19, 19).count(6, 19).end(20, -1).count(6, 19).end(1, 1).count(6, 1).end(0, 0).count(6, 0).end(1, -1);
        x.status(0);
        for (int bytes = 20; bytes <= 300; bytes += 20) {
            x.feed(0, 0, 0, 0, 0, bytes);
        }
        x.end(301, -1).count(6, 300).end(300, 300).end(299, 299).count(6, 299).end(300, -1);
    }

    private static void endCutsBytes() {
        Run x = new Run("4: the TAPE has its first n bytes alone");
        x.put("a=source 12").end(10, 10).tables(1).tell(1, 1, 1, 1, 1).read(1, 1).rows(0, 1);
        x.put("a=source 0").end(9, 9).put("1;b=ever a").count(6, 19).tables(2).read(1, 1).table(1, "1:1@0");
        x.put("a=source 0").end(0, 0).tables(-6).fault(0);
        // what was cut off goes on no TOKEN, and is none
        x.put("a=source 0").end(9, 9).tables(-6).fault(9);
        x.put("a=source 1;b=ever a").end(18, 18).tables(-6).fault(18);
        x.put("a=source 1;b=plus a 12").end(21, 21).tables(2).read(1, 1).table(1, "1:2@1");
        x.put("aa=source 0").end(1, 1).tables(-6).fault(1);
    }

    private static String padded(String text, int length, String with) {
        StringBuilder s = new StringBuilder(text);
        while (s.length() < length) {
            s.append(with);
        }
        return s.toString();
    }

    private static void textOf300() {
        taken("II: a TEXT of 300 bytes, the last a blank", padded("a=source 0", 300, " "), 1);
        taken("II: a TEXT of 300 bytes, the first ones blanks", padded("", 290, " ") + "a=source 0", 1);
        taken("II: a TEXT of 300 bytes, the last a digit", padded(A + "b=plus a ", 296, "0") + "1000", 2);
        taken("II: a TEXT of 300 bytes, the last a NAME", padded(A + "b=ever", 299, " ") + "a", 2);
        Run x = new Run("II: the last of 300 bytes counts").put(padded(A + "b=plus a ", 299, "0") + "7").count(6, 300);
        x.tables(2).tell(0, 1, 1, 1, 1).read(1, 1).table(1, "1:8@1");
    }

    private static void textOf300WithAFault() {
        refused("II: the last of 300 bytes is the FAULT", padded("a=source 0", 299, " ") + "x", 299);
        refused("II: the end of 300 bytes is the FAULT", padded("a=source 0", 299, " ") + ";", 300);
        refused("II: 300 letters", padded("", 300, "a"), 0);
        refused("II: 289 digits", padded(A.substring(0, 9), 300, "9"), 9);
        refused("II: 300 other bytes", padded("", 300, ";"), 0);
    }

    private static void emptyText() {
        Run x = new Run("5: -6 also of an empty one");
        x.tables(-6).status(-6).fault(0).count(3, 0).count(6, 0).read(0, -6);
        x.make("a=source 0", 1).tables(-6).status(-6).fault(0).count(3, 1).read(0, 0);
        x.feed(0, 0, 0, 0, 0, 20).end(0, 0).tables(-6).fault(0).count(3, 1);
    }

    private static void blanksAlone() {
        refused("5: -6 of blanks alone: FAULT at its end", " ", 1);
        refused("5: -6 of blanks alone: FAULT at its end", "       ", 7);
        refused("5: -6 of blanks alone: FAULT at its end", padded("", 299, " "), 299);
        refused("5: -6 of blanks alone: FAULT at its end", padded("", 300, " "), 300);
    }

    private static void tapeIsEmptyThen() {
        Run x = new Run("5: the TAPE, which is empty then");
        x.put("a=source 0").count(6, 10).tables(1).count(6, 0).end(1, -1).tables(-6).fault(0);
        x.put("a=source 9").count(6, 10).tables(-6).fault(9).count(6, 0).end(1, -1).tables(-6).fault(0);
        x.feed(0, 0, 0, 0, 0, 20);
    }

    private static void blanksBetweenTokens() {
        String text = "a = source 0 ; b = where a value < - 5 ; c = join a b ; d = plus c - 0 ; e = window d 1";
        taken("II: any blanks between TOKENS: one", text, 5);
        taken("II: any blanks between TOKENS: three, ahead and behind", "  " + text.replace(" ", "   ") + "   ", 5);
        taken("II: any blanks between TOKENS: none", "a=source0;b=where a value<-5;c=join a b;d=plus c-0;e=window d1", 5);
        refused("II: a blank parts a TOKEN", "a=sour ce 0", 2);
        refused("II: a blank parts a TOKEN", A + "b=plus a 1 0", 22);
        refused("II: no blank, one TOKEN", A + "b=joina a", 13);
        refused("II: no blank, one TOKEN", A + "b=join aa", 18);
        refused("II: no blank, one TOKEN", A + "b=where avalue<5", 19);
    }

    private static void blanksOfOtherBytes() {
        int[] others = {0, 9, 10, 11, 12, 13, 31, 33, 160, 255};
        for (int other : others) {
            refused("II: a blank is 32, not " + other, "a=source" + (char) other + "0", 8);
            refused("II: a blank is 32, not " + other, "a=source 0" + (char) other, 10);
            refused("II: a blank is 32, not " + other, (char) other + "a=source 0", 0);
        }
    }

    private static void letters() {
        taken("II: letters a .. z", "a=source 0;z=ever a;y=ever z;b=join y a", 4);
        char[] others = {'`', '{', 'A', 'Z', '@', '[', '_', 225, 250};
        for (char other : others) {
            refused("II: letters a .. z", other + "=source 0", 0);
            refused("II: letters a .. z", "a" + other + "=source 0", 1);
            refused("II: letters a .. z", A + "b=ever " + other, 18);
            refused("II: letters a .. z", A + "b=ever" + other + "a", 17);
            refused("II: letters a .. z", "a=SOURCE 0", 2);
        }
    }

    private static void digits() {
        Run x = new Run("II: digits 0 .. 9").make(A + "b=plus a 901;c=times b 0;d=plus c 23;e=times d 4;f=plus e 5;"
            + "g=plus f 678;h=plus g 9", 8).tell(0, 1, 99, 1, 1).read(1, 1);
        x.row(1, 0, 1, 1000).row(2, 0, 1, 0).row(3, 0, 1, 23).row(4, 0, 1, 92).row(5, 0, 1, 97).row(6, 0, 1, 775);
        x.row(7, 0, 1, 784);
        char[] others = {'/', ':', 'o', 'l', '+', '.', 178, 185};
        for (char other : others) {
            refused("II: digits 0 .. 9", "a=source " + other, 9);
            refused("II: digits 0 .. 9", "a=source 0" + other, 10);
            refused("II: digits 0 .. 9", A + "b=plus a 1" + other + "0", 21);
        }
    }

    private static void longestTokens() {
        refused("II: longest rows of letters", "a=sourcesource 0", 2);
        refused("II: longest rows of letters", "aa=source 0", 0);
        refused("II: longest rows of letters", A + "b=timesa 1", 13);
        refused("II: longest rows of digits", "a=source 00002000", 9);
        taken("II: a row of digits ends a row of letters", "a=source2", 1);
        refused("II: a row of letters ends a row of digits", "a=source 0b=ever a", 10);
        refused("II: single other bytes", A + "b=where a key<=1", 25);
        refused("II: single other bytes", A + "b=where a key==1", 25);
        refused("II: single other bytes", A + "b=plus a --1", 21);
        refused("II: single other bytes", A + ";b=ever a", 11);
        refused("II: single other bytes", "a==source 0", 2);
    }

    private static void nameOfOneLetter() {
        taken("II: NAME: one letter", "q=source 0", 1);
        refused("II: NAME: one letter, not two", "qq=source 0", 0);
        refused("II: NAME: one letter, not none", "=source 0", 0);
        refused("II: NAME: one letter, no digit", "1=source 0", 0);
        refused("II: NAME: one letter, in a MAKING", A + "b=join a ab", 20);
        refused("II: NAME: one letter, in a MAKING", A + "b=ever 1", 18);
        refused("II: NAME: one letter, in a MAKING", A + "b=ever =", 18);
    }

    private static void nameThatHasATable() {
        refused("II: a NAME that has a TABLE already", A + "a=source 0", 11);
        refused("II: a NAME that has a TABLE already", A + "  a  ", 13);
        refused("II: a NAME that has a TABLE already", A + "z=ever a;b=ever z;z=ever a", 29);
        refused("II: a NAME that has a TABLE already", tables(11) + ";a=ever a", tables(11).length() + 1);
        Run x = new Run("II: a NAME of TABLES that are no more").make(A + "b=ever a", 2);
        x.make("b=source 1;a=ever b", 2).tell(1, 2, 3, 4, 1).read(1, 1).table(0, "2:3@4").table(1, "2:3@0");
    }

    private static void nameThatHasNone() {
        String[] ones = {"plus # 1", "times # 1", "rekey # 1", "window # 1", "ever #", "sum #", "count #", "max #",
            "last #", "where # key=1", "join # a", "less # a", "join a #", "less a #"};
        for (String one : ones) {
            int place = A.length() + 2 + one.indexOf('#');
            taken("II: a NAME that has a TABLE", A + "b=" + one.replace('#', 'a'), 2);
            refused("II: a NAME that has none", A + "b=" + one.replace('#', 'c'), place);
            refused("II: a NAME that has none yet, its own", A + "b=" + one.replace('#', 'b'), place);
            refused("II: a NAME that has none yet", A + "b=" + one.replace('#', 'c') + ";c=ever a", place);
        }
        refused("II: the first NAME that has none", A + "b=join c d", 18);
        Run x = new Run("II: a NAME of a TEXT that was not taken").put(A + "b=ever a;c=?").tables(-6).fault(22);
        x.put("a=source 0;c=ever b").tables(-6).fault(18);
    }

    private static void sourceNumber() {
        for (int n = 0; n <= 2; n++) {
            Run x = new Run("II: source N (0 .. 2)").make("a=source " + n, 1);
            x.tell(0, 0, 0, 0, 1).tell(1, 1, 1, 1, 2).tell(2, 2, 2, 2, 3).read(3, 3);
            x.table(0, n + ":" + n + "@" + n);
        }
        taken("II: source N (0 .. 2)", "a=source 002", 1);
        refused("II: source N (0 .. 2)", "a=source 3", 9);
        refused("II: source N (0 .. 2)", "a=source 10", 9);
    }

    private static void rekeyNumber() {
        Run x = new Run("II: rekey N (0 .. 31)").make(A + "b=rekey a 0;c=rekey a 31;d=rekey a 00031", 4);
        x.tell(0, 5, 1, 1, 1).read(1, 1).table(1, "5:1@1").table(2, "4:1@1").table(3, "4:1@1");
        refused("II: rekey N (0 .. 31)", A + "b=rekey a 32", 21);
        refused("II: rekey N (0 .. 31)", A + "b=rekey a 1000", 21);
    }

    private static void windowNumber() {
        Run x = new Run("II: window N (1 .. 1000)").make(A + "b=window a 1;c=window a 1000", 3);
        x.tell(0, 5, 1, 9999, 1).read(1, 1).table(1, "5:1@9999").table(2, "5:1@9000");
        refused("II: window N (1 .. 1000)", A + "b=window a 0", 22);
        refused("II: window N (1 .. 1000)", A + "b=window a 000", 22);
        refused("II: window N (1 .. 1000)", A + "b=window a 1001", 22);
    }

    private static void numbers() {
        Run x = new Run("II: NUMBER to 1000").make(A + "b=plus a 1000;c=plus a -1000;d=times a 1000;e=times a - 1000;"
            + "f=where a value<1000;g=where a value>-1000;h=plus a -0;i=plus a 0", 9);
        x.tell(0, 1, 2, 3, 1).read(1, 1).row(1, 0, 1, 1002).row(2, 0, 1, -998).row(3, 0, 1, 2000).row(4, 0, 1, -2000);
        x.rows(5, 1).rows(6, 1).row(7, 0, 1, 2).row(8, 0, 1, 2);
        String[] ones = {"plus a ", "times a ", "where a key<", "where a value>", "where a time="};
        for (String one : ones) {
            int place = A.length() + 2 + one.length();
            taken("II: NUMBER to 1000", A + "b=" + one + "1000", 2);
            taken("II: NUMBER to 1000", A + "b=" + one + "-1000", 2);
            refused("II: NUMBER to 1000", A + "b=" + one + "1001", place);
            refused("II: NUMBER to 1000", A + "b=" + one + "-1001", place + 1);
            refused("II: NUMBER to 1000", A + "b=" + one + "-  1001", place + 3);
            refused("II: NUMBER has digits", A + "b=" + one + "-", place + 1);
            refused("II: NUMBER has digits", A + "b=" + one + "- a", place + 2);
            refused("II: NUMBER has digits", A + "b=" + one, place);
        }
    }

    private static void numbersThatWrapAround() {
        String[] wraps = {"4294967296", "4294967297", "18446744073709551616", "18446744073709551617", "2147483648",
            "9223372036854775808", "65536", "65537", "256", "257", "99999999999999999999999999999999"};
        for (String n : wraps) {
            refused("II: a number that would wrap around", "a=source " + n, 9);
            refused("II: a number that would wrap around", A + "b=rekey a " + n, 21);
            if (n.length() > 4) {
                refused("II: a number that would wrap around", A + "b=window a " + n, 22);
                refused("II: a number that would wrap around", A + "b=plus a -" + n, 21);
            }
        }
    }

    private static void minusOfNumbersAlone() {
        refused("II: N has no minus", "a=source -0", 9);
        refused("II: N has no minus", A + "b=rekey a -1", 21);
        refused("II: N has no minus", A + "b=window a -1", 22);
        refused("II: NUMBER has no plus", A + "b=plus a +1", 20);
    }

    private static void words() {
        String[] ones = {"source 0", "where a key<1", "plus a 1", "times a 1", "rekey a 1", "window a 1", "ever a", "sum a",
            "count a", "max a", "last a", "join a a", "less a a"};
        for (String one : ones) {
            String rest = one.substring(one.indexOf(' '));
            String word = one.substring(0, one.indexOf(' '));
            taken("II: MAKING", A + "b=" + one, 2);
            refused("II: MAKING, a letter too few", A + "b=" + word.substring(0, word.length() - 1) + rest, 13);
            refused("II: MAKING, a letter too many", A + "b=" + word + "s" + rest, 13);
            refused("II: MAKING, the first letter another", A + "b=q" + word.substring(1) + rest, 13);
            refused("II: MAKING, the last letter another",
                A + "b=" + word.substring(0, word.length() - 1) + "q" + rest, 13);
            refused("II: MAKING, and no more", A + "b=" + one + " a", 14 + one.length());
            refused("II: MAKING, and no more", A + "b=" + one + " 1", 14 + one.length());
        }
        refused("II: MAKING, none", A + "b=", 13);
        refused("II: MAKING, none", A + "b=;", 13);
        refused("II: MAKING, a NAME alone", A + "b=a", 13);
        refused("II: MAKING, a number alone", "a=0", 2);
        refused("II: MAKING, a number alone", A + "b=0", 13);
    }

    private static void columnsAndSigns() {
        String[] columns = {"key", "value", "time"};
        for (String column : columns) {
            for (char sign : "<>=".toCharArray()) {
                taken("II: where", A + "b=where a " + column + sign + "1", 2);
            }
            int place = 21 + column.length();
            refused("II: where has a sign", A + "b=where a " + column, place);
            refused("II: where has a sign", A + "b=where a " + column + "1", place);
            refused("II: where has a sign", A + "b=where a " + column + ";1", place);
            refused("II: where has a sign", A + "b=where a " + column + "?1", place);
            refused("II: where has a column", A + "b=where a " + column + "s<1", 21);
            refused("II: where has a column", A + "b=where a " + column.substring(1) + "<1", 21);
        }
        refused("II: where has a column", A + "b=where a a<1", 21);
        refused("II: where has a column", A + "b=where a", 20);
        refused("II: where has a column", A + "b=where a <1", 21);
        refused("II: where has a NAME first", A + "b=where key a<1", 19);
    }

    private static void faultAtTheEnd() {
        String whole = A + "b = where a value < - 5 ; c = join a b";
        // behind these the text ends where a token has to come: the fault is the text's length, behind blanks too
        int[] lengths = {1, 2, 8, 11, 12, 14, 20, 22, 28, 30, 32, 36, 38, 40, 45, 47};
        for (int length : lengths) {
            refused("II: FAULT, the end's: the TEXT's length", whole.substring(0, length), length);
            refused("II: FAULT, the end's: the TEXT's length", whole.substring(0, length) + "   ", length + 3);
        }
        taken("II: the end where a TABLE may end", whole.substring(0, 10), 1);
        taken("II: the end where a TABLE may end", whole.substring(0, 34), 2);
        taken("II: the end where a TABLE may end", whole, 3);
    }

    private static void faultIsTheFirst() {
        refused("II: FAULT: the first TOKEN that can't go on", "a=source 3;a=source 4", 9);
        refused("II: FAULT: the first TOKEN that can't go on", A + "a=what 0", 11);
        refused("II: FAULT: the first TOKEN that can't go on", A + "b what c", 13);
        refused("II: FAULT: the first TOKEN that can't go on", "   a=source 0   b", 16);
        refused("II: FAULT: its first byte", "a=source 0;   bcd=ever a", 14);
        refused("II: FAULT: its first byte", A + "b=plus a   1001;c=", 22);
    }

    private static String tables(int n) {
        StringBuilder s = new StringBuilder("a=source 0");
        for (int t = 1; t < n; t++) {
            s.append(';').append((char) ('a' + t)).append("=plus ").append((char) ('a' + t - 1)).append(" 1");
        }
        return s.toString();
    }

    private static void twelveTables() {
        Run x = new Run("II: 12 TABLES at most").make(tables(12), 12).count(3, 12).tell(0, 1, 5, 1, 1).read(1, 1);
        x.rows(11, 1).row(11, 0, 1, 16).rows(12, -1).row(12, 0, 0, Run.UNSAID);
        x.put(tables(13)).tables(-6).status(-6).fault(tables(12).length() + 1).count(3, 12).row(11, 0, 1, 16);
        x.rows(12, -1).mark(1).outs("+1:16@1").tell(0, 2, 6, 2, 2).read(1, 1).rows(11, 2).owns(0, 24);
        x.fall(1).rows(0, 1).rows(11, 1).row(11, 0, 1, 16).host(7, true, 12).late(-1, -1).rows(11, 0);
    }

    private static void theThirteenthsName() {
        int place = tables(12).length() + 1;
        refused("II: the 13th's NAME", tables(12) + ";m=ever a", place);
        refused("II: the 13th's NAME, behind blanks", tables(12) + ";   m=ever a", place + 3);
        refused("II: the 13th's NAME, with nothing behind it", tables(12) + ";m", place);
        refused("II: the 13th's NAME, with what can't be behind it", tables(12) + ";m=ever z", place);
        refused("II: the 13th's NAME, which has a TABLE", tables(12) + ";a=ever a", place);
        refused("II: the 13th has no NAME", tables(12) + ";", place);
        refused("II: the 13th has no NAME", tables(12) + ";  ", place + 2);
        refused("II: the 13th has no NAME", tables(12) + ";;", place);
        refused("II: behind the 12th, no 13th", tables(12) + " m", place);
        taken("II: blanks behind the 12th", tables(12) + "  ", 12);
    }

    private static void theLastIsTheAnswer() {
        Run one = new Run("II: the last one is THE ANSWER, of one").make("a=source 2", 1).tell(2, 1, 2, 3, 1);
        one.read(1, 1).count(5, 1).mark(1).outs("+1:2@3");
        Run x = new Run("II: they are numbered as they come; the last one is THE ANSWER");
        x.make("z=source 0;a=plus z 1;m=plus z 2", 3).tell(0, 1, 0, 0, 1).read(1, 1);
        x.table(0, "1:0@0").table(1, "1:1@0").table(2, "1:2@0").mark(1).outs("+1:2@0");
    }

    private static void faultOfTheLatest() {
        Run x = new Run("6: FAULT of the latest tables(); NONE without").fault(-1);
        x.put("a=source 3").fault(-1).tables(-6).fault(9).fault(9);
        x.put("a=source 1").fault(9).tables(1).fault(-1).fault(-1);
        x.put("a").tables(-6).fault(1).late(5, -1).fault(1).read(0, 0).mark(0).fall(0).fault(1).tell(3, 0, 0, 0, -1);
        x.fault(1).host(1, true, 0).fault(1).tables(-6).fault(0);
    }

    private static void tablesStayWithAFault() {
        Run x = new Run("5: -6: they stay").make(A + "b=ever a;c=sum b", 3).late(3, -1);
        x.tell(0, 1, 1, 9, 1).tell(0, 1, 2, 9, 2).tell(0, 1, 4, 5, 3).read(1, 1).mark(1).read(2, 2);
        String before = x.seen();
        x.put("a=source 1;b=ever a;c=ever b;d=ever c;e=").tables(-6).status(-6).fault(40).sees(before);
        x.put(A + "b=ever a;c=sum b;").tables(-6).status(-6).fault(28).sees(before);
        x.fall(1).table(2, "1:1@0").read(150, 2).table(2, "1:3@0").count(2, 1).mark(3).outs("+1:1@0 -1:1@0 +1:3@0");
        x.late(-1, 3);
    }
}
