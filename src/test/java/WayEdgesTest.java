/** The edges of part 1 of the document, THE WAY, and of promises 1 to 9 and 12: a method for each sentence that names one. */
public final class WayEdgesTest {
    private static final int BAD = -1000000001, FULL = -1000000003, NONE = -1000000005, NOTHING = -1000000011,
            KIND = -1000000012;
    private static final int MIN = Integer.MIN_VALUE, MAX = Integer.MAX_VALUE;
    private static final int PACE = 1, YARD = 2, GRAIN = 3, HOLE = 4, LEAKS = 5, GOES = 6, WORTH = 7;
    private static final Dues d = new Dues("WayEdgesTest");

    private static void due(String call, int got, int want) {
        d.due(call, got, want);
    }

    public static void main(String[] args) {
        calls();
        newObject();
        yards();
        heapsAtFirst();
        muleNumbers();
        paces();
        firstYard();
        grains();
        holes();
        kinds();
        allAreMules();
        rules();
        countersAtFirst();
        minuteAtFirst();
        minuteAtMost();
        leakHeld();
        leakWithoutText();
        patchedLeaks();
        sewnLeaks();
        tornLeaks();
        wetLeaks();
        oatsLeaks();
        goesByKinds();
        worthByKinds();
        notNamed();
        mule();
        told();
        as();
        turns();
        set();
        rule();
        yard();
        sweep();
        seed();
        d.end();
    }

    private static void calls() {
        d.says("An object is used for at most 512 calls after it has been made");
        BarleyLine x = new BarleyLine();
        for (int call = 1; call <= 512; call++) {
            due("call " + call, x.seed(call + 1), call);
        }
        BarleyLine y = Scene.mules(1);
        for (int call = 2; call <= 511; call++) {
            y.minutes(1);
        }
        due("the 512th call", y.count(1), 510);
    }

    private static void newObject() {
        d.says("As told; no MULES.");
        BarleyLine x = new BarleyLine();
        due("count(0)", x.count(0), 0);
        due("told(0, 0)", x.told(0, 0), BAD);
        due("count(6)", x.count(6), 0);
        due("count(7)", x.count(7), 0);
        due("count(8)", x.count(8), 0);
        due("count(9)", x.count(9), 1);
        for (int key = 0; key < 3; key++) {
            due("why(" + key + ")", x.why(key), NONE);
        }
        for (int sheet = 0; sheet < 4; sheet++) {
            due("pour(" + sheet + ")", x.pour(sheet), NOTHING);
        }
        for (int slot = 0; slot < 5; slot++) {
            due("rest(" + slot + ", 1)", x.rest(slot, 1), NOTHING);
        }
        BarleyLine y = new BarleyLine();
        x.mule(0, 1, 1, 1);
        due("another object has none", y.count(0), 0);
    }

    private static void yards() {
        d.says("THE WAY has YARDS 0 .. 59");
        BarleyLine x = Scene.mules(1);
        for (int yard : new int[] {0, 1, 58, 59}) {
            due("grains of " + yard, x.yard(yard, 0), 0);
            due("green of " + yard, x.yard(yard, 1), 0);
            due("sweep(" + yard + ")", x.sweep(yard), 0);
        }
        for (int yard : new int[] {-1, 60, MIN, MAX}) {
            due("grains of " + yard, x.yard(yard, 0), BAD);
            due("green of " + yard, x.yard(yard, 1), BAD);
            due("sweep(" + yard + ")", x.sweep(yard), BAD);
            due("set yard " + yard, x.set(0, YARD, yard), BAD);
        }
        due("set yard 59", x.set(0, YARD, 59), 0);
        due("set yard 0", x.set(0, YARD, 0), 59);
        due("yard is 0", x.told(0, YARD), 0);
    }

    private static void heapsAtFirst() {
        d.says("each with GRAINS and GREEN (0 each at first)");
        BarleyLine x = new BarleyLine();
        for (int yard = 0; yard < 60; yard++) {
            due("grains of " + yard, x.yard(yard, 0), 0);
            due("green of " + yard, x.yard(yard, 1), 0);
        }
    }

    private static void muleNumbers() {
        d.says("MULES, 8 at most, numbered from 0");
        BarleyLine x = new BarleyLine();
        for (int i = 0; i < 8; i++) {
            due("told of the next one", x.told(i, PACE), BAD);
            due("mule", x.mule(0, i + 1, 0, 0), i);
            due("how many", x.count(0), i + 1);
        }
        due("the ninth", x.mule(0, 1, 0, 0), FULL);
        due("how many", x.count(0), 8);
        for (int i = 0; i < 8; i++) {
            due("told of " + i, x.told(i, PACE), i + 1);
        }
        due("told of 8", x.told(8, PACE), BAD);
        due("told of -1", x.told(-1, PACE), BAD);
        BarleyLine y = Scene.mules(7);
        due("the eighth by lot", y.deal(8), 1);
        due("the ninth", y.mule(0, 1, 0, 0), FULL);
    }

    /** What a mule may be made with and be set to: least and most are taken, one below and one above refused. */
    private static void bounds(int what, int least, int most) {
        BarleyLine x = new BarleyLine();
        for (int v : new int[] {least - 1, most + 1, MIN, MAX}) {
            due("made with " + v, made(x, what, v), BAD);
        }
        due("none came", x.count(0), 0);
        due("made with the least", made(x, what, least), 0);
        due("made with the most", made(x, what, most), 1);
        due("told the least", x.told(0, what), least);
        due("told the most", x.told(1, what), most);
        for (int v : new int[] {least - 1, most + 1, MIN, MAX}) {
            due("set " + v, x.set(0, what, v), BAD);
            due("stays", x.told(0, what), least);
        }
        due("set the most", x.set(0, what, most), least);
        due("is the most", x.told(0, what), most);
        due("set the least", x.set(0, what, least), most);
        due("is the least", x.told(0, what), least);
        due("the other one stays", x.told(1, what), most);
    }

    private static int made(BarleyLine x, int what, int v) {
        return x.mule(0, what == PACE ? v : 1, what == GRAIN ? v : 1, what == HOLE ? v : 1);
    }

    private static void paces() {
        d.says("PACE 0 .. 9");
        bounds(PACE, 0, 9);
    }

    private static void grains() {
        d.says("GRAIN 0 .. 9999");
        bounds(GRAIN, 0, 9999);
    }

    private static void holes() {
        d.says("HOLE 0 .. 50");
        bounds(HOLE, 0, 50);
    }

    private static void firstYard() {
        d.says("YARD (0 at first)");
        BarleyLine x = new BarleyLine();
        x.mule(5, 9, 9999, 50);
        due("made", x.told(0, YARD), 0);
        x.minutes(100);
        x.keep();
        x.mule(0, 3, 3, 3);
        x.minutes(5);
        due("another one has gone on", x.told(1, YARD), 15);
        x.back();
        x.mule(0, 3, 3, 3);
        due("made where another one stood", x.told(1, YARD), 0);
        x.minutes(5);
        x.back();
        x.deal(1);
        due("by lot where another one stood", x.told(1, YARD), 0);
    }

    private static void kinds() {
        d.says("of KINDS: 0 MULE; 1 PATCHED, 2 TORN, 5 OATS, under MULE; 3 SEWN, under PATCHED; 4 WET, under TORN");
        BarleyLine x = new BarleyLine();
        for (int kind : new int[] {-1, 6, MIN, MAX}) {
            due("mule of " + kind, x.mule(kind, 1, 1, 1), BAD);
        }
        due("none came", x.count(0), 0);
        for (int kind = 0; kind < 6; kind++) {
            due("mule of " + kind, x.mule(kind, 1, 1, 10 + kind), kind);
            due("told", x.told(kind, 0), kind);
        }
        String[] above = {"0", "01", "02", "013", "024", "05"};
        for (int kind = 0; kind < 6; kind++) {
            for (int asked = 0; asked < 6; asked++) {
                boolean is = above[kind].indexOf('0' + asked) >= 0;
                due(kind + " as " + asked, x.as(kind, asked), is ? 10 + kind : KIND);
            }
        }
        x.lay(0, 1, 0);
        for (int kind : new int[] {-1, 6, MIN, MAX}) {
            due("as " + kind, x.as(0, kind), BAD);
            due("turns to " + kind, x.turns(0, kind), BAD);
            due("asked as " + kind, x.ask(0, kind), BAD);
        }
        due("stays", x.told(0, 0), 0);
    }

    private static void allAreMules() {
        d.says("(all are MULES)");
        BarleyLine x = new BarleyLine();
        for (int kind = 0; kind < 6; kind++) {
            x.mule(kind, 2, 1, 50 - kind);
            due("as a mule, " + kind, x.as(kind, 0), 50 - kind);
            x.lay(0, 1, kind);
            due("asked as a mule, " + kind, x.ask(0, 0), new int[] {18, 24, 81, 48, 73, 4}[kind]);
        }
    }

    private static void rules() {
        d.says("BIRDS 0 .. 99, GUST 0 .. 100, WIND -3 .. 3, THREAD 0 .. 9 (0 each at first)");
        BarleyLine x = new BarleyLine();
        int[] least = {0, 0, -3, 0};
        int[] most = {99, 100, 3, 9};
        for (int what = 0; what < 4; what++) {
            due("at first " + what, x.count(2 + what), 0);
            for (int v : new int[] {least[what] - 1, most[what] + 1, MIN, MAX}) {
                due("rule(" + what + ", " + v + ")", x.rule(what, v), BAD);
                due("stays", x.count(2 + what), 0);
            }
            due("the most of " + what, x.rule(what, most[what]), 0);
            due("is the most", x.count(2 + what), most[what]);
            due("the least of " + what, x.rule(what, least[what]), most[what]);
            due("is the least", x.count(2 + what), least[what]);
            due("once more", x.rule(what, 0), least[what]);
        }
    }

    private static void countersAtFirst() {
        d.says("FALLEN, EATEN, BLOWN are 0 at first");
        BarleyLine x = new BarleyLine();
        due("fallen", x.way(2), 0);
        due("eaten", x.way(3), 0);
        due("blown", x.way(4), 0);
        due("eaten, by fee", x.fee(), 0);
    }

    private static void minuteAtFirst() {
        d.says("THE MINUTE is 0 at first, 9999 at most.");
        BarleyLine x = new BarleyLine();
        due("count(1)", x.count(1), 0);
        x.minutes(1);
        due("count(1)", x.count(1), 1);
    }

    private static void minuteAtMost() {
        d.says("THE MINUTE is 0 at first, 9999 at most.");
        BarleyLine x = Scene.atMinute(9998);
        due("9998", x.count(1), 9998);
        x.minutes(1);
        due("9999", x.count(1), 9999);
        x.minutes(1);
        due("no more", x.count(1), 9999);
        x.minutes(100);
        due("no more", x.count(1), 9999);
        BarleyLine y = Scene.atMinute(9998);
        y.minutes(100);
        due("one of a hundred", y.count(1), 9999);
    }

    /** LEAKS of a mule of a kind by a text of leak; the mule has HOLE 50, PACE 9, GRAIN 9999. */
    private static int leaks(int kind, String law) {
        BarleyLine x = new BarleyLine();
        x.mule(kind, 9, 9999, 50);
        due("text leak " + law, Dues.text(x, "leak " + law), 0);
        return x.told(0, LEAKS);
    }

    private static void leakHeld() {
        d.says("MULE: what leak gives, held within 0 .. 999 (without a TEXT: HOLE)");
        due("-1", leaks(0, "0-1"), 0);
        due("0", leaks(0, "0"), 0);
        due("1", leaks(0, "1"), 1);
        due("998", leaks(0, "998"), 998);
        due("999", leaks(0, "999"), 999);
        due("1000", leaks(0, "1000"), 999);
        due("9999", leaks(0, "g"), 999);
        due("the least int", leaks(0, "(0-2)*4096*4096*64"), 0);
        due("the most", leaks(0, "4096*4096*64*2-1"), 999);
        due("held ahead of half", leaks(1, "1998"), 499);
        due("held ahead of twice", leaks(2, "1000"), 1998);
        due("held ahead of one more", leaks(5, "0-1"), 1);
        due("held ahead of one more", leaks(5, "1000"), 1000);
    }

    private static void leakWithoutText() {
        d.says("(without a TEXT: HOLE)");
        BarleyLine x = new BarleyLine();
        x.mule(0, 9, 9999, 0);
        x.mule(0, 9, 0, 50);
        due("hole 0", x.told(0, LEAKS), 0);
        due("hole 50, no grain", x.told(1, LEAKS), 50);
        Dues.text(x, "fee 7");
        Dues.text(x, "fine 7");
        due("a text of another key", x.told(1, LEAKS), 50);
    }

    private static void patchedLeaks() {
        d.says("PATCHED: half (cut) of as MULE.");
        due("0", leaks(1, "0"), 0);
        due("1", leaks(1, "1"), 0);
        due("2", leaks(1, "2"), 1);
        due("3", leaks(1, "3"), 1);
        due("999", leaks(1, "999"), 499);
    }

    private static void sewnLeaks() {
        d.says("SEWN: as PATCHED, less 2 (0 at least).");
        due("0", leaks(3, "0"), 0);
        due("3", leaks(3, "3"), 0);
        due("4", leaks(3, "4"), 0);
        due("5", leaks(3, "5"), 0);
        due("6", leaks(3, "6"), 1);
        due("7", leaks(3, "7"), 1);
        due("999", leaks(3, "999"), 497);
    }

    private static void tornLeaks() {
        d.says("TORN: twice as MULE.");
        due("0", leaks(2, "0"), 0);
        due("1", leaks(2, "1"), 2);
        due("999", leaks(2, "999"), 1998);
    }

    private static void wetLeaks() {
        d.says("WET: as TORN, less 5 (0 at least).");
        due("0", leaks(4, "0"), 0);
        due("2", leaks(4, "2"), 0);
        due("3", leaks(4, "3"), 1);
        due("999", leaks(4, "999"), 1993);
    }

    private static void oatsLeaks() {
        d.says("OATS: as MULE, and 1.");
        due("0", leaks(5, "0"), 1);
        due("1", leaks(5, "1"), 2);
        due("999", leaks(5, "999"), 1000);
    }

    private static void byPaces(int kind, int what, int... wanted) {
        BarleyLine x = new BarleyLine();
        x.mule(kind, 0, 100, 7);
        for (int pace = 0; pace < 10; pace++) {
            x.set(0, PACE, pace);
            due("kind " + kind + ", pace " + pace, x.told(0, what), wanted[pace]);
        }
    }

    private static void goesByKinds() {
        d.says("GOES: MULE: PACE.");
        byPaces(0, GOES, 0, 1, 2, 3, 4, 5, 6, 7, 8, 9);
        d.says("SEWN: as MULE, and 1.");
        byPaces(3, GOES, 1, 2, 3, 4, 5, 6, 7, 8, 9, 10);
        d.says("TORN: as MULE, less 1 (0 at least).");
        byPaces(2, GOES, 0, 0, 1, 2, 3, 4, 5, 6, 7, 8);
        d.says("WET: half (cut) of as TORN.");
        byPaces(4, GOES, 0, 0, 0, 1, 1, 2, 2, 3, 3, 4);
    }

    private static void worthByKinds() {
        d.says("WORTH: MULE: 9 PACE.");
        byPaces(0, WORTH, 0, 9, 18, 27, 36, 45, 54, 63, 72, 81);
        d.says("PATCHED: as MULE, and 6.");
        byPaces(1, WORTH, 6, 15, 24, 33, 42, 51, 60, 69, 78, 87);
        d.says("SEWN: twice as PATCHED.");
        byPaces(3, WORTH, 12, 30, 48, 66, 84, 102, 120, 138, 156, 174);
        d.says("TORN: 99 less as MULE.");
        byPaces(2, WORTH, 99, 90, 81, 72, 63, 54, 45, 36, 27, 18);
        d.says("WET: as TORN, less 8.");
        byPaces(4, WORTH, 91, 82, 73, 64, 55, 46, 37, 28, 19, 10);
        d.says("OATS: 4.");
        byPaces(5, WORTH, 4, 4, 4, 4, 4, 4, 4, 4, 4, 4);
    }

    private static void notNamed() {
        d.says("(A KIND that is not named does as the one above it.)");
        byPaces(1, GOES, 0, 1, 2, 3, 4, 5, 6, 7, 8, 9);
        byPaces(5, GOES, 0, 1, 2, 3, 4, 5, 6, 7, 8, 9);
    }

    private static void mule() {
        d.says("One more MULE: its number. BAD; FULL.");
        BarleyLine x = new BarleyLine();
        due("the first", x.mule(0, 0, 0, 0), 0);
        due("refused between", x.mule(0, 0, 0, 51), BAD);
        due("the second", x.mule(5, 9, 9999, 50), 1);
        for (int i = 2; i < 8; i++) {
            due("one more", x.mule(i % 6, i, i, i), i);
        }
        due("full", x.mule(0, 0, 0, 0), FULL);
        due("kind ahead of full", x.mule(6, 0, 0, 0), BAD);
        due("pace ahead of full", x.mule(0, 10, 0, 0), BAD);
        due("grain ahead of full", x.mule(0, 0, 10000, 0), BAD);
        due("hole ahead of full", x.mule(0, 0, 0, 51), BAD);
        int[] second = {5, 9, 0, 9999, 50};
        for (int what = 0; what < 5; what++) {
            due("the second is as it was made", x.told(1, what), second[what]);
        }
    }

    private static void told() {
        d.says("Of a MULE: what 0 KIND, 1 PACE, 2 YARD, 3 GRAIN, 4 HOLE, 5 LEAKS, 6 GOES, 7 WORTH. BAD.");
        BarleyLine x = new BarleyLine();
        due("no mules", x.told(0, 0), BAD);
        x.mule(4, 9, 8888, 33);
        x.set(0, YARD, 44);
        int[] wanted = {4, 9, 44, 8888, 33, 61, 4, 10};
        for (int what = 0; what < 8; what++) {
            due("what " + what, x.told(0, what), wanted[what]);
            due("the next mule, what " + what, x.told(1, what), BAD);
            due("mule -1, what " + what, x.told(-1, what), BAD);
        }
        for (int odd : new int[] {-1, 8, MIN, MAX}) {
            due("what " + odd, x.told(0, odd), BAD);
        }
        due("mule MIN", x.told(MIN, 0), BAD);
        due("mule MAX", x.told(MAX, 0), BAD);
    }

    private static void as() {
        d.says("A MULE as one of a KIND: HOLE. BAD: mule, kind; KIND: it is not of that KIND, nor of one under it.");
        BarleyLine x = new BarleyLine();
        due("no mules", x.as(0, 0), BAD);
        x.mule(1, 1, 1, 0);
        x.mule(1, 1, 1, 50);
        due("hole 0", x.as(0, 1), 0);
        due("hole 50", x.as(1, 1), 50);
        due("above it", x.as(1, 0), 50);
        due("under it", x.as(1, 3), KIND);
        due("beside it", x.as(1, 2), KIND);
        due("mule -1", x.as(-1, 2), BAD);
        due("mule 2", x.as(2, 2), BAD);
        due("kind -1", x.as(0, -1), BAD);
        due("kind 6", x.as(0, 6), BAD);
    }

    private static void turns() {
        d.says("A MULE is of another KIND from now on: what it was. BAD.");
        BarleyLine x = new BarleyLine();
        due("no mules", x.turns(0, 0), BAD);
        x.mule(0, 5, 100, 8);
        x.mule(0, 5, 100, 8);
        int was = 0;
        for (int kind : new int[] {5, 4, 3, 2, 1, 0}) {
            due("to " + kind, x.turns(0, kind), was);
            due("is " + kind, x.told(0, 0), kind);
            due("pace stays", x.told(0, PACE), 5);
            due("grain stays", x.told(0, GRAIN), 100);
            due("hole stays", x.told(0, HOLE), 8);
            was = kind;
        }
        due("the other stays", x.told(1, 0), 0);
        due("mule -1", x.turns(-1, 1), BAD);
        due("mule 2", x.turns(2, 1), BAD);
        due("kind -1", x.turns(0, -1), BAD);
        due("kind 6", x.turns(0, 6), BAD);
        due("stays", x.told(0, 0), 0);
    }

    private static void set() {
        d.says("PACE, YARD, GRAIN, HOLE (what 1 .. 4) of a MULE becomes v: what it was. BAD.");
        BarleyLine x = new BarleyLine();
        due("no mules", x.set(0, PACE, 0), BAD);
        x.mule(2, 1, 1, 1);
        x.mule(2, 2, 2, 2);
        for (int what : new int[] {0, 5, -1, MIN, MAX}) {
            due("what " + what, x.set(0, what, 1), BAD);
        }
        due("mule -1", x.set(-1, PACE, 1), BAD);
        due("mule 2", x.set(2, PACE, 1), BAD);
        for (int what = 1; what <= 4; what++) {
            due("what " + what, x.set(0, what, 7), what == YARD ? 0 : 1);
            for (int other = 1; other <= 4; other++) {
                int rests = other == YARD ? 0 : 1;
                due("what " + what + ", other " + other, x.told(0, other), other <= what ? 7 : rests);
                due("another mule", x.told(1, other), other == YARD ? 0 : 2);
            }
        }
        due("kind stays", x.told(0, 0), 2);
    }

    private static void rule() {
        d.says("BIRDS, GUST, WIND, THREAD (what 0 .. 3) becomes v: what it was. BAD.");
        BarleyLine x = new BarleyLine();
        for (int what : new int[] {-1, 4, MIN, MAX}) {
            due("what " + what, x.rule(what, 0), BAD);
        }
        for (int what = 0; what < 4; what++) {
            due("what " + what, x.rule(what, 1 + what % 3), 0);
            for (int other = 0; other < 4; other++) {
                due("what " + what + ", other " + other, x.count(2 + other), other <= what ? 1 + other % 3 : 0);
            }
        }
    }

    private static void yard() {
        d.says("Of a YARD: what 0 GRAINS, 1 GREEN. BAD.");
        BarleyLine x = Scene.mules(1);
        Scene.heap(x, 0, 30);
        Scene.heap(x, 58, 50);
        x.rain();
        due("grains of 0", x.yard(0, 0), 27);
        due("green of 0", x.yard(0, 1), 3);
        due("grains of 58", x.yard(58, 0), 45);
        due("green of 58", x.yard(58, 1), 5);
        for (int what : new int[] {-1, 2, MIN, MAX}) {
            due("what " + what, x.yard(0, what), BAD);
        }
        for (int yard : new int[] {-1, 60}) {
            due("yard " + yard, x.yard(yard, 0), BAD);
        }
    }

    private static void sweep() {
        d.says("All GRAINS of a YARD are swept up (gone): how many. BAD.");
        BarleyLine x = Scene.mules(1);
        Scene.heapAtTheEnd(x, 20);
        Scene.heap(x, 0, 1);
        Scene.heap(x, 1, 40);
        x.rain();
        due("yard -1", x.sweep(-1), BAD);
        due("yard 60", x.sweep(60), BAD);
        due("one grain", x.sweep(0), 1);
        due("the last yard", x.sweep(59), 18);
        due("an empty one", x.sweep(0), 0);
        due("an empty one", x.sweep(59), 0);
        due("gone", x.yard(59, 0), 0);
        due("green stays", x.yard(59, 1), 2);
        due("others stay", x.yard(1, 0), 36);
        due("not eaten", x.way(3), 0);
        due("not blown", x.way(4), 0);
    }

    private static void seed() {
        d.says("z becomes v: what it was.");
        BarleyLine x = new BarleyLine();
        int was = 1;
        for (int v : new int[] {0, MAX, MIN, -1, BAD, NONE}) {
            due("seed(" + v + ")", x.seed(v), was);
            due("z", x.count(9), v);
            was = v;
        }
    }
}
