/** The grammar of texts, their faults and what they give. */
public final class TextsTest {
    private static final Dues d = new Dues("TextsTest");

    public static void main(String[] args) {
        gives();
        wraps();
        faults();
        depths();
        bytes();
        blanks();
        names();
        longest();
        d.end();
    }

    private static void due(String text, int want) {
        BarleyLine x = new BarleyLine();
        x.mule(0, 3, 20, 7);
        x.set(0, 2, 5);
        d.due(text, Dues.text(x, "fine " + text), 0);
        d.due(text, x.fine(0), want);
    }

    private static void gives() {
        due("g", 20);
        due("y", 5);
        due("0042", 42);
        due("9999", 9999);
        due("1+2*3", 7);
        due("(1+2)*3", 9);
        due("9-4-3", 2);
        due("9-(4-3)", 8);
        due("7/2", 3);
        due("(0-7)/2", -3);
        due("100/7*7", 98);
        due("2*7/4", 3);
        due("5/0", 0);
        due("0/0", 0);
        due("1<2", 1);
        due("2<2", 0);
        due("2=2", 1);
        due("2=3", 0);
        due("3>2", 1);
        due("2>2", 0);
        due("1+1<3", 1);
        due("(1<2)+(3>2)", 2);
        due("5&7", 1);
        due("5&0", 0);
        due("0|9", 1);
        due("0|0", 0);
        due("0-1|0", 1);
        due("1|1&0", 1);
        due("(1|1)&0", 0);
        due("1=1&0", 0);
        due("0=0|5", 1);
        due("!0", 1);
        due("!7", 0);
        due("!!7", 1);
        due("!0+1", 2);
        due("!0*5", 5);
        due("!(0+1)", 0);
        due("2&3&4", 1);
        due("0|0|4", 1);
        due("4&0|3", 1);
        due("1-2*3+4/2-5", -8);
        due("((((((((g))))))))", 20);
        due("1&2=2", 1);
        due("g", 20);
        due("g*y+!y", 100);
    }

    private static void wraps() {
        due("9999*9999*9999", 9999 * 9999 * 9999);
        due("(0-2)*(4096*4096*64)*1", Integer.MIN_VALUE);
        due("(0-2)*(4096*4096*64)/(0-1)", Integer.MIN_VALUE);
        due("4096*4096*64*2-1", Integer.MAX_VALUE);
    }

    private static void fault(String text, int place) {
        BarleyLine x = new BarleyLine();
        d.due("fault of " + text, Dues.text(x, text), -100 - place);
        d.due("no text by " + text, x.count(6), 0);
        d.due("used up by " + text, x.count(8), 0);
    }

    private static void faults() {
        fault("", 0);
        fault("   ", 3);
        fault("leak", 4);
        fault("leak  ", 6);
        fault("leek h", 0);
        fault("  leek h", 2);
        fault("lea", 0);
        fault("leakh", 0);
        fault("Leak h", 0);
        fault("5", 0);
        fault("+", 0);
        fault("leak5", 4);
        fault("leak5h", 4);
        fault("leak h5", 6);
        fault("leak 5h", 6);
        fault("leak 5 h", 7);
        fault("leak h h", 7);
        fault("leak hh", 5);
        fault("leak 12345", 5);
        fault("leak 00000", 5);
        fault("leak h+12345", 7);
        fault("leak h 12345", 7);
        fault("leak h+", 7);
        fault("leak h+  ", 9);
        fault("leak +h", 5);
        fault("leak -1", 5);
        fault("leak h++p", 7);
        fault("leak h<p<g", 8);
        fault("leak h<p=g", 8);
        fault("leak h<", 7);
        fault("leak h<=p", 7);
        fault("leak (h", 7);
        fault("leak (h ", 8);
        fault("leak h)", 6);
        fault("leak ()", 6);
        fault("leak (h))", 8);
        fault("leak (h p)", 8);
        fault("leak h!", 6);
        fault("leak !", 6);
        fault("leak !+h", 6);
        fault("leak h%p", 6);
        fault("leak h,", 6);
        fault("leak fee", 5);
        fault("leak leak h", 5);
        fault("fee e;", 5);
        fault("leak\th", 4);
        fault("leak H", 5);
        fault("fine g+A", 7);
    }

    private static void fine(String text) {
        BarleyLine x = new BarleyLine();
        d.due("no fault of " + text, Dues.text(x, text), 0);
    }

    private static void depths() {
        String eight = Dues.many("(", 8);
        String closed = Dues.many(")", 8);
        fine("leak " + eight + "h" + closed);
        fault("leak " + eight + "(h)" + closed, 13);
        fault("leak " + eight + "(", 13);
        fault("leak " + eight, 13);
        fine("leak " + eight + "h" + closed + "+" + eight + "h" + closed);
        fine("leak " + Dues.many("(h)+", 20) + "h");
        fine("leak " + Dues.many("!", 8) + "h");
        fault("leak " + Dues.many("!", 9) + "h", 13);
        fine("leak " + Dues.many("!", 8) + "h+" + Dues.many("!", 8) + "h");
        fine("leak " + Dues.many("!h+", 20) + "h");
        fine("leak " + Dues.many("!(", 8) + "h" + closed);
        fault("leak " + Dues.many("!(", 8) + "!h" + closed, 21);
        fault("leak " + Dues.many("!(", 8) + "(h)" + closed, 21);
        fault("leak !!!!(!!!!!h)", 14);
        fine("leak !!!!(!!!!h)");
        fine("leak !!!!(!!!!h)+!!!!!!!!h");
        fine("leak !!!!(h)*!!!!!!!!h");
    }

    private static void bytes() {
        fault("leak h" + (char) 0, 6);
        fault("leak h" + (char) 255, 6);
        fault((char) 160 + "leak h", 0);
        fault("leak h" + (char) ('+' + 128) + "h", 6);
        fault("leak " + (char) ('h' + 128), 5);
        fault("leak h\n", 6);
    }

    private static void blanks() {
        fine("leak(h)");
        fine("leak!h");
        fine("fee(e)");
        fine("   leak    h   +   1   ");
        fine("leak h+p");
        fine("leak ( ! h < p ) * g / 2 = 1 & 0 | 1");
    }

    private static void names() {
        String[] keys = {"leak", "fee", "fine"};
        String[] names = {"hpg", "eb", "gy"};
        for (int key = 0; key < 3; key++) {
            for (char name = 'a'; name <= 'z'; name++) {
                String text = keys[key] + " " + name;
                if (names[key].indexOf(name) >= 0) {
                    fine(text);
                } else {
                    fault(text, keys[key].length() + 1);
                }
            }
        }
        BarleyLine x = new BarleyLine();
        x.mule(0, 3, 20, 7);
        Dues.text(x, "leak h*100+p*10+g/20");
        d.due("names of leak", x.told(0, 5), 731);
    }

    private static void longest() {
        String text = "fine " + Dues.many("1+", 45) + "1";
        d.due("96 bytes", text.length(), 96);
        BarleyLine x = new BarleyLine();
        x.mule(0, 1, 1, 1);
        d.due("the longest", Dues.text(x, text), 0);
        d.due("what it gives", x.fine(0), 46);
        d.due("leaves", x.textTold(0, 1), 46);
        String deep = "fine " + Dues.many("0|1&2<3+4*(", 8) + "5" ;
        x = new BarleyLine();
        d.due("cut short", Dues.text(x, deep), -100 - deep.length());
        String nested = "fine " + Dues.many("1+2*(", 8) + "3" + Dues.many(")", 8);
        x = new BarleyLine();
        x.mule(0, 1, 1, 1);
        int want = 3;
        for (int i = 0; i < 8; i++) {
            want = 1 + 2 * want;
        }
        d.due("nested", Dues.text(x, nested), 0);
        d.due("nested gives", x.fine(0), want);
    }
}
