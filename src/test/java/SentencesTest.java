/**
 * The sentences of the document that name no boundary case, from its first line on; those that do are asked by the
 * *EdgesTest classes. What is only thought is asked of one object and done by another that was made in the same way.
 */
public final class SentencesTest {
    private static final int BAD = -1000000001, NO = -1000000002, FULL = -1000000003, NONE = -1000000005,
            NOTHING = -1000000011, KIND = -1000000012, SIZE = -1000000014;
    private static final int YARD = 2, GRAIN = 3, HOLE = 4;
    private static final Dues d = new Dues("SentencesTest");

    private static void due(String call, int got, int want) {
        d.due(call, got, want);
    }

    public static void main(String[] args) {
        whereAllLies();
        goneOnFrom();
        toTheLastCall();
        whereTold();
        thereIsNone();
        zIsTold();
        behind();
        pan();
        whose();
        loosestFirst();
        namesOfFine();
        needsBlankAhead();
        whatFeeGives();
        shortsAndFloats();
        orANumber();
        below0();
        itIsNone();
        becomesV();
        fromAndTo();
        twoByTwo();
        d.end();
    }

    /** Mules of each kind, with birds, gusts, growing holes and a law. */
    private static BarleyLine caravan() {
        BarleyLine x = new BarleyLine();
        for (int kind = 0; kind < 6; kind++) {
            x.mule(kind, 1 + kind, 300 + 50 * kind, 4 + 3 * kind);
        }
        x.seed(20);
        x.rule(0, 6);
        x.rule(1, 70);
        x.rule(2, -3);
        x.rule(3, 1);
        Dues.text(x, "leak h+g/100-p");
        return x;
    }

    private static void whereAllLies() {
        d.says("mules that carry grain over a pass, sacks that leak, a line of barley on the way behind them");
        BarleyLine x = caravan();
        int carried = x.way(5);
        int swept = 0;
        for (int i = 0; i < 12; i++) {
            int fell = x.way(2);
            due("fallen in them", x.minutes(1 + i), x.way(2) - fell);
            if (i % 3 == 0) {
                x.rain();
            }
            swept += i % 4 == 3 ? x.sweep(i) : 0;
            due("carried or fallen", x.way(5) + x.way(2), carried);
            due("where what fell is", x.way(0) + x.way(1) + x.way(3) + x.way(4) + swept, x.way(2));
        }
        d.holds("birds ate, gusts blew, grains sprouted, some were swept",
                x.way(3) > 0 && x.way(4) > 0 && x.way(1) > 0 && swept > 0);
    }

    private static void goneOnFrom() {
        d.says("all told in rows that can be checked, kept and gone on from.");
        BarleyLine x = caravan();
        x.minutes(3);
        due("kept", x.keep(), 6);
        int[] told = new int[20];
        for (int i = 0; i < 20; i += 2) {
            x.minutes(1);
            told[i] = x.way(0);
            told[i + 1] = x.way(3);
        }
        for (int v : told) {
            x.tell(v);
        }
        due("checked", x.check(10), 0);
        due("back", x.back(), 6);
        due("the minute", x.count(1), 3);
        for (int i = 0; i < 20; i += 2) {
            x.minutes(1);
            due("gone on: grains", x.way(0), told[i]);
            due("gone on: eaten", x.way(3), told[i + 1]);
        }
    }

    private static void toTheLastCall() {
        d.says("An object is used for at most 512 calls after it has been made");
        BarleyLine x = new BarleyLine();
        x.mule(0, 0, 9999, 1);
        for (int call = 2; call <= 511; call++) {
            due("call " + call, x.minutes(1), 1);
        }
        due("call 512", x.told(0, GRAIN), 9999 - 510);
    }

    private static void whereTold() {
        d.says("(but the tape and the numbers that wait, where told)");
        Twins.changes(d, "a fault", SentencesTest::faultyTape, BarleyLine::text, -104, x -> x.trim(0));
        Twins.changes(d, "no text more", SentencesTest::textsFull, BarleyLine::text, FULL, x -> x.trim(0));
        checkRefused(1, NO);
        checkRefused(0, BAD);
        Twins.nothingChanges(d, "a mule of no kind", Twins::busy, x -> x.mule(6, 0, 0, 0), BAD);
    }

    private static void faultyTape(BarleyLine x) {
        Twins.busy(x);
        Dues.tape(x, "fee ");
    }

    private static void textsFull(BarleyLine x) {
        for (int i = 0; i < 14; i++) {
            Dues.text(x, "fee 7");
        }
        x.tell(5);
        Dues.tape(x, "fee 8");
    }

    private static void checkRefused(int n, int want) {
        BarleyLine x = new BarleyLine();
        x.tell(7);
        Dues.tape(x, "fee 8");
        due("check " + n + " without an image", x.check(n), want);
        due("none wait", x.count(7), 0);
        due("the tape stays", x.count(8), 5);
        x.keep();
        x.tell(0);
        x.tell(0);
        due("what waited before is gone", x.check(1), 0);
    }

    private static void thereIsNone() {
        d.says("NONE: there is none.");
        BarleyLine x = new BarleyLine();
        for (int key = 0; key < 3; key++) {
            due("no text", x.why(key), NONE);
        }
        due("no mule to patch", x.patch(1, 0), NONE);
        x.sheet(0, 0, 3);
        due("no place otherwise", x.reads(0), NONE);
        due("no mule's line", x.whose(0, 1, 0), NONE);
        x.mule(0, 0, 1, 0);
        due("never empty", x.empty(), NONE);
        due("a mule to patch", x.patch(1, 0), 0);
        due("a mule's line", x.whose(0, 1, 0), 0);
        Dues.text(x, "fine g");
        due("no text of leak", x.why(0), NONE);
        due("no text of fee", x.why(1), NONE);
        due("a text of fine", x.why(2), 0);
        x.mark(0, 2, 1);
        due("a place otherwise", x.reads(0), 2);
    }

    private static void zIsTold() {
        d.says("z is told (1 at first).");
        BarleyLine x = new BarleyLine();
        due("at first", x.count(9), 1);
        x.minutes(1);
        due("behind a minute", x.count(9), Lot.behind(1, 2));
        x.deal(1);
        due("behind a mule", x.count(9), Lot.behind(1, 6));
        due("told by seed", x.seed(5), Lot.behind(1, 6));
        due("as it was put", x.count(9), 5);
    }

    private static void behind() {
        d.says("BEHIND n MINUTES: GRAINS of all YARDS, together; EATEN; BLOWN; GRAIN of a MULE.");
        BarleyLine x = caravan();
        BarleyLine done = caravan();
        for (int n = 0; n <= 40; n++) {
            due(n + ": grains", x.behind(n, 0), done.way(0));
            due(n + ": eaten", x.behind(n, 1), done.way(3));
            due(n + ": blown", x.behind(n, 2), done.way(4));
            for (int mule = 0; mule < 6; mule++) {
                due(n + ": grain of " + mule, x.behind(n, 3 + mule), done.told(mule, GRAIN));
            }
            done.minutes(1);
        }
    }

    private static void pan() {
        d.says("PAN of a pace, for n: what one takes up, together,");
        for (int pace = 0; pace <= 9; pace++) {
            BarleyLine x = caravan();
            BarleyLine done = caravan();
            int taken = 0;
            for (int k = 1; k <= 60; k++) {
                done.minutes(1);
                taken += done.sweep(Math.min(pace * k, 59));
                due("pace " + pace + " for " + k, x.pan(pace, k), taken);
            }
        }
    }

    private static void whose() {
        d.says("WHOSE by a SHEET, for n:");
        for (int n : new int[] {0, 1, 4, 5, 17, 60}) {
            BarleyLine x = caravan();
            x.sheet(2, 1, 24);
            for (int place = 0; place < 24; place++) {
                x.mark(2, place, place % 7 == 3 ? NONE : 3 * place - 20);
            }
            int least = 0;
            int difference = Integer.MAX_VALUE;
            for (int mule = 0; mule < 6; mule++) {
                int alone = differenceIfAlone(mule, n);
                if (alone < difference) {
                    least = mule;
                    difference = alone;
                }
            }
            due(n + ": the mule", x.whose(2, n, 0), least);
            due(n + ": differences", x.whose(2, n, 1), difference);
        }
    }

    private static int differenceIfAlone(int mule, int n) {
        BarleyLine done = caravan();
        for (int other = 0; other < 6; other++) {
            if (other != mule) {
                done.set(other, HOLE, 0);
            }
        }
        if (n > 0) {
            done.minutes(n);
        }
        int sum = 0;
        for (int place = 0; place < 24; place++) {
            sum += place % 7 == 3 ? 0 : Math.abs(done.yard(place, 0) - (3 * place - 20));
        }
        return sum;
    }

    /** Each two signs, without brackets and with those that the order asks for; of one level the left one comes first. */
    private static void loosestFirst() {
        d.says("E, the loosest first: OR: AND { | AND }; AND: TEST { & TEST }; TEST: SUM [ (< | = | >) SUM ]; SUM: TERM { (+ | -)"
                + " TERM }; TERM: PIECE { (* | /) PIECE }");
        String signs = "|&<=>+-*/";
        int[] levels = {0, 1, 2, 2, 2, 3, 3, 4, 4};
        int[][] values = {{7, 3, 2}, {2, 3, 7}, {0, 5, 1}, {9, 0, 0}, {1, 1, 1}, {20, 6, 0}, {3, 7, 7}};
        for (int i = 0; i < 9; i++) {
            for (int j = 0; j < 9; j++) {
                boolean twoTests = levels[i] == 2 && levels[j] == 2;
                for (int[] v : values) {
                    String left = v[0] + " " + signs.charAt(i) + " " + v[1];
                    String right = v[1] + " " + signs.charAt(j) + " " + v[2];
                    String plain = left + " " + signs.charAt(j) + " " + v[2];
                    String bound = levels[j] > levels[i] ? v[0] + " " + signs.charAt(i) + " (" + right + ")"
                            : "(" + left + ") " + signs.charAt(j) + " " + v[2];
                    if (!twoTests) {
                        due(plain, fee(plain), fee(bound));
                    }
                }
            }
        }
        due("* ahead of +", fee("2+3*4"), 14);
        due("+ ahead of <", fee("2+3<4"), 0);
        due("< ahead of &", fee("2&3<4"), 1);
        due("& ahead of |", fee("1|1&0"), 1);
        due("! ahead of *", fee("!0*5"), 5);
        due("left ahead of right", fee("9-4-3"), 2);
        due("left ahead of right", fee("40/4/5"), 2);
    }

    private static int fee(String e) {
        BarleyLine x = new BarleyLine();
        due("fee " + e + " is a text", Dues.text(x, "fee " + e), 0);
        return x.fee();
    }

    private static void namesOfFine() {
        d.says("of fine g GRAIN, y YARD");
        BarleyLine x = new BarleyLine();
        x.mule(2, 3, 20, 7);
        x.mule(0, 4, 31, 8);
        x.set(1, YARD, 17);
        Dues.text(x, "fine g*100+y");
        due("of the first", x.fine(0), 2000);
        due("of the second", x.fine(1), 3117);
        for (char name = 'a'; name <= 'z'; name++) {
            boolean known = name == 'g' || name == 'y';
            due("fine " + name, Dues.text(new BarleyLine(), "fine " + name), known ? 0 : -105);
        }
    }

    private static void needsBlankAhead() {
        d.says("(a word that needs a blank ahead of it");
        BarleyLine x = new BarleyLine();
        due("fee1", Dues.text(x, "fee1"), -103);
        due("fee 1e", Dues.text(x, "fee 1e"), -105);
        due("fee e1", Dues.text(x, "fee e1"), -105);
        due("none was told", x.count(6), 0);
        due("fee 1", Dues.text(x, "fee 1"), 0);
    }

    private static void whatFeeGives() {
        d.says("What fee gives.");
        BarleyLine x = caravan();
        x.minutes(60);
        int eaten = x.way(3);
        int blown = x.way(4);
        d.holds("both are some, and not the same", eaten > 0 && blown > 0 && eaten != blown);
        due("without a text", x.fee(), eaten);
        Dues.text(x, "fee b");
        due("BLOWN", x.fee(), blown);
        Dues.text(x, "fee 1000*e+b");
        due("of both", x.fee(), 1000 * eaten + blown);
        Dues.text(x, "fine 3");
        due("another key", x.fee(), 1000 * eaten + blown);
        x.minutes(60);
        due("as it is then", x.fee(), 1000 * x.way(3) + x.way(4));
    }

    private static void shortsAndFloats() {
        d.says("of shorts (sort 0) or floats (1; whole numbers)");
        BarleyLine x = new BarleyLine();
        x.sheet(0, 0, 1);
        x.sheet(1, 1, 1);
        for (int v : new int[] {0, 1, -1, 32767, -32768, 32768, 65535, 65536, 99999, -99999, 16385}) {
            x.mark(0, 0, v);
            x.mark(1, 0, v);
            x.lay(0, 2, 0);
            x.lay(1, 2, 1);
            due("of shorts " + v, x.item(0, 0), (short) v);
            due("of floats " + v, x.item(1, 0), v);
        }
    }

    private static void orANumber() {
        d.says("or a number.");
        BarleyLine x = new BarleyLine();
        for (int v : new int[] {0, 17, -17, NONE, BAD, Integer.MAX_VALUE, Integer.MIN_VALUE}) {
            x.lay(3, 3, v);
            due("the number " + v, x.rest(3, Integer.MIN_VALUE), v == Integer.MIN_VALUE ? 0 : v);
            due("by 10", x.rest(3, 10), v % 10);
        }
        due("it held a number", x.lay(3, 0, 0), 3);
    }

    private static void below0() {
        d.says("SIZE: a number of places is below 0");
        BarleyLine x = new BarleyLine();
        for (int sort = 0; sort <= 1; sort++) {
            due("none", x.sheet(sort, sort, 0), 0);
            due("one less", x.sheet(sort, sort, -1), SIZE);
            due("least", x.sheet(sort, sort, Integer.MIN_VALUE), SIZE);
            due("stays", x.reads(sort), NONE);
        }
        due("MISSING, n any", x.sheet(0, -1, -1), 0);
        due("it is", x.reads(0), NOTHING);
    }

    private static void itIsNone() {
        d.says("KIND: it is none (of a KIND, a number, or another thing).");
        BarleyLine x = new BarleyLine();
        x.mule(3, 1, 1, 1);
        x.sheet(0, 0, 1);
        x.sheet(1, 1, 1);
        x.mark(1, 0, NONE);
        x.lay(0, 1, 0);
        x.lay(1, 2, 1);
        x.lay(2, 3, 9);
        due("SEWN is no TORN", x.as(0, 2), KIND);
        due("nor is the one in a slot", x.ask(0, 2), KIND);
        due("a sheet is no mule", x.ask(1, 0), KIND);
        due("a number is no mule", x.ask(2, 0), KIND);
        due("a mule is no sheet", x.item(0, 0), KIND);
        due("a number is no sheet", x.item(2, 0), KIND);
        due("the place is no number", x.item(1, 0), KIND);
        due("a mule is no number", x.rest(0, 1), KIND);
        due("a sheet is no number", x.rest(1, 1), KIND);
        due("no number for shorts", x.mark(0, 0, NONE), KIND);
        due("shorts are no floats", x.copy(0, 0, 1, 0, 1), KIND);
    }

    private static void becomesV() {
        d.says("A place of a SHEET becomes v");
        BarleyLine x = new BarleyLine();
        for (int sort = 0; sort <= 1; sort++) {
            x.sheet(sort, sort, 24);
            for (int place = 0; place < 24; place++) {
                due("mark " + place, x.mark(sort, place, 100 * place - 7), 1);
            }
            due("once more", x.mark(sort, 11, 5), 1);
            x.lay(0, 2, sort);
            for (int place = 0; place < 24; place++) {
                due("place " + place, x.item(0, place), place == 11 ? 5 : 100 * place - 7);
            }
        }
    }

    private static void fromAndTo() {
        d.says("(From a SHEET, its place, to a SHEET, its place.)");
        BarleyLine x = new BarleyLine();
        x.sheet(1, 0, 6);
        x.sheet(3, 0, 9);
        for (int place = 0; place < 6; place++) {
            x.mark(1, place, 10 + place);
        }
        due("two from 4 on to 6 on", x.copy(1, 4, 3, 6, 2), 2);
        x.lay(0, 2, 3);
        x.lay(1, 2, 1);
        for (int place = 0; place < 9; place++) {
            due("to " + place, x.item(0, place), place == 6 ? 14 : place == 7 ? 15 : 0);
        }
        for (int place = 0; place < 6; place++) {
            due("from " + place, x.item(1, place), 10 + place);
        }
    }

    private static void twoByTwo() {
        d.says("), two by two: 0");
        for (int n = 1; n <= 30; n++) {
            BarleyLine x = caravan();
            BarleyLine done = caravan();
            x.keep();
            for (int i = 0; i < n; i++) {
                done.minutes(1);
                x.tell(done.way(0));
                due("how many wait", x.tell(done.way(3)), 2 * i + 2);
            }
            due("check " + n, x.check(n), 0);
            due("none wait", x.count(7), 0);
        }
    }
}
