/** The edges of part 4 of the document, TEXTS, and of promises 21 to 27: a method for each sentence that names one. */
public final class TextEdgesTest {
    private static final int BAD = -1000000001, FULL = -1000000003, NONE = -1000000005;
    private static final int MIN = Integer.MIN_VALUE, MAX = Integer.MAX_VALUE;
    private static final Dues d = new Dues("TextEdgesTest");

    private static void due(String call, int got, int want) {
        d.due(call, got, want);
    }

    public static void main(String[] args) {
        textNumbers();
        tapeAtMost();
        usedUp();
        oneBehindTheOther();
        keys();
        chains();
        oneTest();
        numbers();
        pieces();
        names();
        feeWithout();
        fineWithout();
        signByItself();
        asLongAsItGoes();
        blanks();
        needsBlank();
        faultIsFirstByte();
        tooManyDigits();
        ninthBracket();
        ninthNot();
        tooSoon();
        wraps();
        byZero();
        oneOrZero();
        bothSides();
        toldLast();
        fine();
        feed();
        trim();
        text();
        textTold();
        why();
        d.end();
    }

    /** A text of fine for a mule with GRAIN 20 at YARD 5: what it gives. */
    private static void gives(String e, int want) {
        BarleyLine x = new BarleyLine();
        x.mule(0, 3, 20, 7);
        x.set(0, 2, 5);
        due("fine " + e + " is a text", Dues.text(x, "fine " + e), 0);
        due("fine " + e, x.fine(0), want);
    }

    private static void taken(String bytes) {
        due("taken: " + bytes, Dues.text(new BarleyLine(), bytes), 0);
    }

    private static void fault(String bytes, int place) {
        BarleyLine x = new BarleyLine();
        due("fault of " + bytes, Dues.text(x, bytes), -100 - place);
        due("no text by " + bytes, x.count(6), 0);
    }

    private static void textNumbers() {
        d.says("TEXTS, 14 at most, numbered from 0");
        BarleyLine x = new BarleyLine();
        due("none yet", x.textTold(0, 0), BAD);
        for (int i = 0; i < 14; i++) {
            due("text " + i, Dues.text(x, "fee " + i), i);
            due("how many", x.count(6), i + 1);
            due("told", x.textTold(i, 0), 1);
            due("the next", x.textTold(i + 1, 0), BAD);
            due("gives", x.fee(), i);
        }
        due("the fifteenth", Dues.text(x, "fee 99"), FULL);
        due("how many", x.count(6), 14);
        due("gives", x.fee(), 13);
        due("counts", x.why(1), 13);
        due("another key", Dues.text(x, "leak 1"), FULL);
        due("none counts", x.why(0), NONE);
    }

    private static void tapeAtMost() {
        d.says("THE TAPE (96 bytes at most");
        BarleyLine x = new BarleyLine();
        due("none at first", x.count(8), 0);
        for (int i = 1; i <= 8; i++) {
            due("feed " + i, x.feed(0, 0, 0), 12 * i);
        }
        due("full", x.feed(0, 0, 0), FULL);
        due("stays", x.count(8), 96);
        for (int left = 95; left >= 85; left--) {
            x.trim(left);
            due(left + " and 12", x.feed(0, 0, 0), FULL);
            due("stays", x.count(8), left);
        }
        x.trim(84);
        due("84 and 12", x.feed(0, 0, 0), 96);
        String longest = "fee " + "1+".repeat(45) + "11";
        due("of 96 bytes", longest.length(), 96);
        BarleyLine y = new BarleyLine();
        due("all are read", Dues.text(y, longest), 0);
        due("all are read", y.fee(), 56);
        fault("fee " + "1+".repeat(46), 96);
    }

    /** Texts of one object, long ones and faults between them: none is read by what stood on the tape before. */
    private static void oneBehindTheOther() {
        d.says("THE TAPE (96 bytes at most; an act that reads it uses it up, whatever it answers)");
        BarleyLine x = new BarleyLine();
        String[] faults = {"fee e e", "fee 1 2", "fee1", "fee 12345", "fee", "fee (((", "fee !!!", "leak h%", "feed", ""};
        for (int i = 0; i < 14; i++) {
            Dues.text(x, faults[i % faults.length]);
            due("text " + i, Dues.text(x, "fee " + "1+".repeat(45) + (10 + i)), i);
            due("gives", x.fee(), 55 + i);
            due("leaves", x.textTold(i, 1), 46);
        }
    }

    private static void usedUp() {
        d.says("an act that reads it uses it up, whatever it answers");
        BarleyLine x = new BarleyLine();
        due("a text", Dues.text(x, "fee 1"), 0);
        due("used up", x.count(8), 0);
        due("none left", x.text(), -100);
        due("a fault", Dues.text(x, "fee 1+"), -106);
        due("used up", x.count(8), 0);
        due("none left", x.text(), -100);
        for (int i = 1; i < 14; i++) {
            Dues.text(x, "fee 1");
        }
        due("full", Dues.text(x, "fee 1"), FULL);
        due("used up", x.count(8), 0);
        due("none left", x.text(), -100);
        due("still none", x.count(8), 0);
        Dues.tape(x, "fee 1");
        x.fee();
        x.why(1);
        x.textTold(0, 0);
        x.keep();
        x.back();
        x.check(1);
        due("other acts leave it", x.count(8), 5);
        due("used up: the next begins at 0", x.trim(0), 0);
    }

    private static void keys() {
        d.says("KEY E. KEY: leak | fee | fine.");
        taken("leak 1");
        taken("fee 1");
        taken("fine 1");
        for (String odd : new String[] {"lea", "leaks", "eak", "leal", "fe", "feed", "fea", "fin", "fines", "find", "l", "f",
            "fees", "Leak", "LEAK", "e", "leakk", "finee"}) {
            fault(odd + " 1", 0);
        }
        for (String key : new String[] {"leak", "fee", "fine"}) {
            for (int i = 0; i < key.length(); i++) {
                fault(key.substring(0, i) + "x" + key.substring(i + 1) + " 1", 0);
                fault(key.substring(0, i) + "1" + key.substring(i + 1) + " 1", 0);
            }
        }
        fault("1 leak", 0);
        fault("(leak 1)", 0);
        fault("!leak 1", 0);
        fault("leak", 4);
        fault("fee", 3);
        fault("fine", 4);
        fault("leak leak 1", 5);
        fault("fee fine 1", 4);
        BarleyLine x = new BarleyLine();
        Dues.text(x, "leak 1");
        Dues.text(x, "fee 1");
        Dues.text(x, "fine 1");
        for (int key = 0; key < 3; key++) {
            due("key of " + key, x.textTold(key, 0), key);
        }
    }

    private static void chains() {
        d.says("OR: AND { | AND }; AND: TEST { & TEST }");
        gives("7", 7);
        gives("0|0|0|0|0|0|0|3", 1);
        gives("1&1&1&1&1&1&1&0", 0);
        gives("1|0&0", 1);
        gives("0&0|1", 1);
        gives("1&0|0", 0);
        d.says("SUM: TERM { (+ | -) TERM }; TERM: PIECE { (* | /) PIECE }");
        gives("9-1-1-1-1-1-1-1-1", 1);
        gives("8/2/2/2", 1);
        gives("7/2*2", 6);
        gives("2*7/4", 3);
        gives("1-2*3", -5);
        gives("2*3-1", 5);
        fault("fine |1", 5);
        fault("fine 1||1", 7);
        fault("fine 1&&1", 7);
        fault("fine 1|&1", 7);
        fault("fine 1+", 7);
        fault("fine 1**1", 7);
        fault("fine -1", 5);
        fault("fine 1+-1", 7);
    }

    private static void oneTest() {
        d.says("TEST: SUM [ (< | = | >) SUM ]");
        gives("5", 5);
        gives("1<2", 1);
        gives("1=2", 0);
        gives("1>2", 0);
        gives("2<2", 0);
        gives("2=2", 1);
        gives("2>2", 0);
        gives("2>1", 1);
        gives("(1<2)<3", 1);
        gives("3>(2>1)", 1);
        gives("1<2&2<3", 1);
        gives("1+1=2", 1);
        gives("1=1|1=2", 1);
        for (char first : "<=>".toCharArray()) {
            for (char second : "<=>".toCharArray()) {
                fault("fine 1" + first + "2" + second + "3", 8);
                fault("fine 1" + first + second + "3", 7);
            }
        }
        fault("fine <1", 5);
        fault("fine 1<", 7);
    }

    private static void numbers() {
        d.says("NUMBER (1 to 4 digits)");
        gives("0", 0);
        gives("9", 9);
        gives("10", 10);
        gives("999", 999);
        gives("1000", 1000);
        gives("9999", 9999);
        gives("0000", 0);
        gives("0007", 7);
        fault("fine 10000", 5);
        fault("fine 00000", 5);
        fault("fine 00001", 5);
        fault("fine 99999", 5);
        fault("fine 123456789012345", 5);
    }

    private static void pieces() {
        d.says("PIECE: NUMBER (1 to 4 digits) | NAME | ! PIECE | ( E )");
        gives("g", 20);
        gives("!g", 0);
        gives("!!g", 1);
        gives("(g)", 20);
        gives("(g|0)", 1);
        gives("!0+1", 2);
        gives("!(0+1)", 0);
        gives("!0*7", 7);
        gives("1+!0", 2);
        gives("(((g)))", 20);
        fault("fine ()", 6);
        fault("fine (", 6);
        fault("fine )", 5);
        fault("fine (g", 7);
        fault("fine g)", 6);
        fault("fine (g))", 8);
        fault("fine !", 6);
        fault("fine !)", 6);
        fault("fine g!", 6);
        fault("fine g(", 6);
        fault("fine g(1)", 6);
        fault("fine (1)(1)", 8);
        fault("fine (1)1", 8);
        fault("fine 1 1", 7);
    }

    private static void names() {
        d.says("NAMES, each one letter: of leak h HOLE, p PACE, g GRAIN; of fee e EATEN, b BLOWN");
        String[] keys = {"leak", "fee", "fine"};
        String[] names = {"hpg", "eb", "gy"};
        for (int key = 0; key < 3; key++) {
            for (char name = 'a'; name <= 'z'; name++) {
                if (names[key].indexOf(name) >= 0) {
                    taken(keys[key] + " " + name);
                    fault(keys[key] + " " + name + name, keys[key].length() + 1);
                } else {
                    fault(keys[key] + " " + name, keys[key].length() + 1);
                }
            }
        }
        BarleyLine x = new BarleyLine();
        x.mule(0, 3, 5, 4);
        Dues.text(x, "leak h*100+p*10+g");
        due("leak", x.told(0, 5), 435);
        x.mule(0, 0, 50, 50);
        x.rule(0, 3);
        x.rule(1, 100);
        x.rule(2, -1);
        Dues.text(x, "leak h");
        x.seed(Lot.minute(0, Lot.ANY, 0));
        x.minutes(1);
        Dues.text(x, "fee e*100+b");
        due("fee", x.fee(), 300 + (4 + 50 - 2 - 3) / 2);
        Dues.text(x, "fine y*1000+g");
        due("fine", x.fine(0), 3001);
    }

    private static void feeWithout() {
        d.says("(what fee gives is told by fee(); without a TEXT: EATEN)");
        BarleyLine x = Scene.mules(1);
        due("at first", x.fee(), 0);
        Scene.heap(x, 0, 20);
        x.rule(0, 6);
        x.seed(Lot.minute(0, Lot.ANY, Lot.ANY));
        x.minutes(1);
        due("eaten", x.fee(), 6);
        Dues.text(x, "leak 1");
        Dues.text(x, "fine 1");
        due("texts of other keys", x.fee(), 6);
        Dues.text(x, "fee 0");
        due("a text", x.fee(), 0);
        Dues.text(x, "fee 0-1");
        due("not held", x.fee(), -1);
        Dues.text(x, "fee 9999*9999");
        due("not held", x.fee(), 99980001);
    }

    private static void fineWithout() {
        d.says("(what fine gives for a MULE is told by fine(); without a TEXT: GRAIN)");
        BarleyLine x = new BarleyLine();
        x.mule(0, 0, 0, 0);
        x.mule(0, 0, 9999, 0);
        due("no grain", x.fine(0), 0);
        due("the most", x.fine(1), 9999);
        Dues.text(x, "leak 1");
        Dues.text(x, "fee 1");
        due("texts of other keys", x.fine(1), 9999);
        Dues.text(x, "fine 0-g");
        due("not held", x.fine(1), -9999);
        x.set(1, 2, 59);
        Dues.text(x, "fine y");
        due("at the end", x.fine(1), 59);
    }

    /** What is due where one byte of each value stands: ahead of a text, as its piece, within it, and behind it. */
    private static void signByItself() {
        d.says("A word is a row of letters a .. z, or of digits, as long as it goes; any other byte is a sign by itself.");
        for (int value = 0; value < 256; value++) {
            char b = (char) value;
            boolean letter = b >= 'a' && b <= 'z';
            boolean digit = b >= '0' && b <= '9';
            if (b == ' ') {
                taken(b + "leak h");
                taken("leak h" + b);
                fault("leak h" + b + "h", 7);
                fault("leak " + b, 6);
                continue;
            }
            fault(b + "leak h", 0);
            fault("leak" + b, letter ? 0 : b == '(' || b == '!' ? 5 : 4);
            boolean between = "+-*/<=>&|".indexOf(b) >= 0;
            fault("leak h" + b, letter ? 5 : between ? 7 : 6);
            if (digit || "hpg".indexOf(b) >= 0) {
                taken("leak " + b);
            } else {
                fault("leak " + b, b == '(' || b == '!' ? 6 : 5);
            }
            if (between) {
                taken("leak h" + b + "h");
            } else {
                fault("leak h" + b + "h", letter ? 5 : 6);
            }
        }
    }

    private static void asLongAsItGoes() {
        d.says("A word is a row of letters a .. z, or of digits, as long as it goes");
        fault("leakh", 0);
        fault("leak hp", 5);
        fault("leak h p", 7);
        fault("leak 12 34", 8);
        fault("leak 1 2345", 7);
        fault("leak h1", 6);
        fault("leak 1h", 6);
        fault("leak h+pg", 7);
        fault("leak a`", 5);
        fault("leak h{", 6);
        fault("leak 1:", 6);
    }

    private static void blanks() {
        d.says("Between words and signs, and at the ends, there may be blanks (byte 32)");
        taken("leak 1");
        taken("   leak   1   ");
        taken("leak(1)");
        taken("leak ( 1 )");
        taken("leak!1");
        taken("leak ! ! 1");
        taken(" leak ( h + 1 ) * 2 < 3 & 4 | 5 / 6 = 7 ");
        taken(" ".repeat(90) + "leak 1");
        taken("leak" + " ".repeat(91) + "1");
        taken("leak 1" + " ".repeat(90));
        fault(" ".repeat(96), 96);
        fault("leak 1 0", 7);
        for (char odd : new char[] {0, 9, 10, 13, 31, 160, 255}) {
            fault("leak" + odd + "1", 4);
            fault(odd + "leak 1", 0);
            fault("leak 1" + odd, 6);
            fault("leak 1 " + odd + " + 1", 7);
        }
    }

    private static void needsBlank() {
        d.says("a word right behind another one needs one");
        fault("leak1", 4);
        fault("fee1", 3);
        fault("fine12345", 4);
        fault("leak1+1", 4);
        taken("leak 1");
        taken("leak  1");
        fault(" leak1", 5);
        taken("leak(1)+(1)");
    }

    private static void faultIsFirstByte() {
        d.says("FAULT: the first byte of the first word or sign with which no TEXT goes on");
        fault("   leek 1", 3);
        fault("leak   )", 7);
        fault("leak 1 +   abc", 11);
        fault("leak 1 +   12345", 11);
        fault("leak 1 %", 7);
        fault("leak (1 % 2) )", 8);
        fault("leak x y", 5);
        fault("leak 1<2<3)", 8);
        BarleyLine x = new BarleyLine();
        due("at 0", Dues.text(x, "?"), -100);
        due("at 95", Dues.text(x, "fee " + "1+".repeat(45) + "1?"), -195);
        due("at 96", Dues.text(x, "fee " + "1+".repeat(46)), -196);
    }

    private static void tooManyDigits() {
        d.says("a NUMBER of more than 4 digits");
        taken("leak 1234");
        fault("leak 12345", 5);
        fault("leak 1+12345", 7);
        fault("leak (12345", 6);
        fault("leak 1 12345", 7);
        fault("leak 12345)", 5);
        fault("leak " + "1".repeat(91), 5);
        taken("leak 1234+5");
    }

    private static void ninthBracket() {
        d.says("the ninth ( that would be open within others");
        String eight = "(".repeat(8);
        String closed = ")".repeat(8);
        taken("leak " + eight + "1" + closed);
        fault("leak " + eight + "(1)" + closed, 13);
        fault("leak " + eight + "(", 13);
        fault("leak " + "(".repeat(91), 13);
        fault("leak " + eight + "1+(1)" + closed, 15);
        fault("leak " + eight, 13);
        taken("leak " + eight + "1" + closed + "+" + eight + "1" + closed);
        taken("leak (" + "(1)+".repeat(20) + "1)");
        taken("leak " + "(".repeat(7) + "(1)+(1)" + ")".repeat(7));
        fault("leak " + "(".repeat(7) + "(1)+((1))" + ")".repeat(7), 17);
        taken("leak " + "(1)*".repeat(22) + "1");
    }

    private static void ninthNot() {
        d.says("the ninth ! likewise, each by itself");
        String eight = "!".repeat(8);
        taken("leak " + eight + "1");
        fault("leak " + eight + "!1", 13);
        fault("leak " + "!".repeat(91), 13);
        fault("leak " + eight, 13);
        taken("leak " + eight + "1+" + eight + "1");
        taken("leak " + "!1+".repeat(25) + "1");
        taken("leak " + eight + "(".repeat(8) + "1" + ")".repeat(8));
        taken("leak " + "(".repeat(8) + eight + "1" + ")".repeat(8));
        taken("leak " + "!(".repeat(8) + "1" + ")".repeat(8));
        fault("leak " + "!(".repeat(8) + "!1" + ")".repeat(8), 21);
        fault("leak " + "!(".repeat(8) + "(1)" + ")".repeat(8), 21);
        fault("leak " + eight + "(!1)", 14);
        fault("leak " + eight + "(".repeat(8) + "(", 21);
        taken("leak (" + eight + "1)+" + eight + "1");
    }

    private static void tooSoon() {
        d.says("the end (the place behind the last byte), if it comes too soon");
        fault("", 0);
        fault(" ", 1);
        fault("leak", 4);
        fault("leak ", 5);
        fault("leak    ", 8);
        fault("leak (", 6);
        fault("leak (1", 7);
        fault("leak (1  ", 9);
        fault("leak 1+", 7);
        fault("leak 1+  ", 9);
        fault("leak !", 6);
        fault("leak 1<", 7);
        BarleyLine x = new BarleyLine();
        Dues.tape(x, "leak 1+1");
        x.trim(7);
        due("the end is where the tape is trimmed", x.text(), -107);
    }

    private static void wraps() {
        d.says("Ints wrap");
        String least = "(0-2)*4096*4096*64";
        gives(least, MIN);
        gives(least + "-1", MAX);
        gives("(" + least + "-1)+1", MIN);
        gives("9999*9999*9999", 9999 * 9999 * 9999);
        gives(least + "*2", 0);
        gives("(" + least + ")/(0-1)", MIN);
        gives("(" + least + "-1)*2", -2);
        gives(least + "<0", 1);
        gives(least + "-1>0", 1);
        gives("0-(" + least + ")", MIN);
    }

    private static void byZero() {
        d.says("/ is 0 by 0");
        gives("1/0", 0);
        gives("0/0", 0);
        gives("9999/(1-1)", 0);
        gives("7+5/0", 7);
        gives("5/0/0", 0);
        gives("5/0*3", 0);
        gives("((0-2)*4096*4096*64)/0", 0);
        gives("0/5", 0);
        d.says("/ cuts towards 0");
        gives("7/2", 3);
        gives("(0-7)/2", -3);
        gives("7/(0-2)", -3);
        gives("(0-7)/(0-2)", 3);
        gives("(0-1)/2", 0);
    }

    private static void oneOrZero() {
        d.says("tests, & | ! give 1 or 0 (what is not 0 is true");
        gives("7&9", 1);
        gives("7|9", 1);
        gives("0|9", 1);
        gives("9|0", 1);
        gives("2&4", 1);
        gives("7&0", 0);
        gives("0&7", 0);
        gives("(0-1)&(0-1)", 1);
        gives("(0-1)|0", 1);
        gives("!(0-1)", 0);
        gives("!0", 1);
        gives("!2", 0);
        gives("!!2", 1);
        gives("(2=2)+(2<3)+(3>2)", 3);
        gives("(2=3)+(3<2)+(2>3)", 0);
    }

    private static void bothSides() {
        d.says("both sides are worked out");
        gives("0&1/0", 0);
        gives("1|1/0", 1);
        gives("1/0|1", 1);
        gives("1/0&1", 0);
    }

    private static void toldLast() {
        d.says("Of a KEY that TEXT counts that was told last.");
        BarleyLine x = new BarleyLine();
        Dues.text(x, "fee 1");
        Dues.text(x, "fine 2");
        x.mule(0, 0, 0, 0);
        due("fee", x.fee(), 1);
        Dues.text(x, "fee 3");
        due("fee", x.fee(), 3);
        due("fine stays", x.fine(0), 2);
        due("why", x.why(1), 2);
        Dues.text(x, "fee 4+");
        due("a fault counts not", x.fee(), 3);
        for (int i = 3; i < 14; i++) {
            Dues.text(x, "fee " + (i + 10));
            due("fee", x.fee(), i + 10);
        }
        Dues.text(x, "fee 99");
        due("one too many counts not", x.fee(), 23);
    }

    private static void fine() {
        d.says("What fine gives for a MULE. BAD.");
        BarleyLine x = new BarleyLine();
        due("no mules", x.fine(0), BAD);
        for (int i = 0; i < 8; i++) {
            x.mule(0, 0, i, 0);
            due("mule " + i, x.fine(i), i);
            due("the next", x.fine(i + 1), BAD);
        }
        for (int odd : new int[] {-1, 8, MIN, MAX}) {
            due("mule " + odd, x.fine(odd), BAD);
        }
        Dues.text(x, "fine 5");
        due("with a text too", x.fine(8), BAD);
        due("with a text too", x.fine(-1), BAD);
    }

    private static void feed() {
        d.says("Twelve bytes come to THE TAPE, the highest of each number first: how many it has. FULL: it would have more than 96.");
        BarleyLine x = new BarleyLine();
        due("twelve", x.feed(0x66656520, 0x31323334, 0x2b206520), 12);
        due("in order", x.text(), 0);
        due("in order", x.fee(), 1234);
        BarleyLine y = new BarleyLine();
        y.feed(0x66656520, 0x31202020, 0x202020ff);
        due("the last byte, 255", y.text(), -111);
        y.feed(0xff656520, 0x31202020, 0x20202020);
        due("the first byte, 255", y.text(), -100);
        y.feed(0x66656520, 0x80202020, 0x20202020);
        due("128, the highest of the second", y.text(), -104);
        y.feed(0x66656520, 0x31202020, 0x80000000);
        due("128, the highest of the third", y.text(), -108);
        for (int i = 1; i <= 8; i++) {
            due("feed " + i, y.feed(MIN, MAX, -1), 12 * i);
        }
        due("the ninth", y.feed(MIN, MAX, -1), FULL);
        y.trim(85);
        due("97", y.feed(MIN, MAX, -1), FULL);
        y.trim(84);
        due("96", y.feed(MIN, MAX, -1), 96);
    }

    private static void trim() {
        d.says("THE TAPE keeps its first n bytes: n. BAD.");
        BarleyLine x = new BarleyLine();
        due("nothing there", x.trim(0), 0);
        due("nothing there", x.trim(1), BAD);
        due("nothing there", x.trim(-1), BAD);
        x.feed(0x66656520, 0x31323334, 0x20202020);
        for (int n : new int[] {-1, 13, 96, MIN, MAX}) {
            due("trim(" + n + ")", x.trim(n), BAD);
            due("stays", x.count(8), 12);
        }
        due("all", x.trim(12), 12);
        due("but one", x.trim(11), 11);
        due("is gone", x.trim(12), BAD);
        due("six", x.trim(6), 6);
        due("feed behind them", x.feed(0x20202020, 0x20202b31, 0x20202020), 18);
        due("a text", x.text(), 0);
        due("the first six, and what came then", x.fee(), 13);
        Dues.tape(x, " ".repeat(96));
        due("96", x.trim(96), 96);
        due("97", x.trim(97), BAD);
        due("none", x.trim(0), 0);
        due("none", x.count(8), 0);
    }

    private static void text() {
        d.says("THE TAPE is a TEXT: its number. -100 less the place of its FAULT; FULL.");
        BarleyLine x = new BarleyLine();
        due("no bytes", x.text(), -100);
        due("a fault", Dues.text(x, "fee"), -103);
        due("the first", Dues.text(x, "fee 1"), 0);
        due("a fault between", Dues.text(x, "fee )"), -104);
        for (int i = 1; i < 14; i++) {
            due("text " + i, Dues.text(x, "fee 1"), i);
        }
        due("full", Dues.text(x, "fee 1"), FULL);
        due("a fault stands ahead of full", Dues.text(x, "fee )"), -104);
        due("no bytes, full", x.text(), -100);
        due("how many", x.count(6), 14);
    }

    private static void textTold() {
        d.says("Of a TEXT: what 0 KEY (0 leak, 1 fee, 2 fine), 1 how many NUMBERS and NAMES it has. BAD.");
        BarleyLine x = new BarleyLine();
        Dues.text(x, "fine ((!!(7)))");
        due("one", x.textTold(0, 1), 1);
        Dues.text(x, "leak h+h+1+1+p");
        due("five", x.textTold(1, 1), 5);
        Dues.text(x, "fee " + "1+".repeat(45) + "11");
        due("forty-six", x.textTold(2, 1), 46);
        due("keys", x.textTold(0, 0), 2);
        due("keys", x.textTold(1, 0), 0);
        due("keys", x.textTold(2, 0), 1);
        for (int odd : new int[] {-1, 3, 14, MIN, MAX}) {
            due("text " + odd, x.textTold(odd, 0), BAD);
            due("text " + odd, x.textTold(odd, 1), BAD);
        }
        for (int odd : new int[] {-1, 2, MIN, MAX}) {
            due("what " + odd, x.textTold(0, odd), BAD);
        }
        Dues.text(x, "fee 1+1+");
        due("a fault changes none", x.textTold(2, 1), 46);
        due("a fault is none", x.textTold(3, 1), BAD);
    }

    private static void why() {
        d.says("The TEXT that counts for a KEY. BAD; NONE.");
        BarleyLine x = new BarleyLine();
        for (int odd : new int[] {-1, 3, MIN, MAX}) {
            due("key " + odd, x.why(odd), BAD);
        }
        String[] keys = {"leak", "fee", "fine"};
        for (int key = 0; key < 3; key++) {
            due("none of " + key, x.why(key), NONE);
            Dues.text(x, keys[key] + " 1");
            due("first of " + key, x.why(key), 2 * key);
            Dues.text(x, keys[key] + " 2");
            due("last of " + key, x.why(key), 2 * key + 1);
        }
        due("leak stays", x.why(0), 1);
        due("fee stays", x.why(1), 3);
    }
}
