/** The edges of part 5 of the document, SHEETS, SLOTS and FINDINGS, and of promises 28 to 36. */
public final class SheetEdgesTest {
    private static final int BAD = -1000000001, NO = -1000000002, NONE = -1000000005, NOTHING = -1000000011,
            KIND = -1000000012, INDEX = -1000000013, SIZE = -1000000014;
    private static final int MIN = Integer.MIN_VALUE, MAX = Integer.MAX_VALUE;
    private static final Dues d = new Dues("SheetEdgesTest");

    private static void due(String call, int got, int want) {
        d.due(call, got, want);
    }

    public static void main(String[] args) {
        sheets();
        places();
        missingAtFirst();
        noNumber();
        slots();
        nothingAtFirst();
        muleForGood();
        rowOfItsOwn();
        sheet();
        sheetAllZero();
        mark();
        markShorts();
        markFloats();
        markOrder();
        pour();
        pourHeld();
        pourBeyond();
        reads();
        copy();
        copyEdges();
        copyAsTheyWere();
        copyOrder();
        lay();
        layHeld();
        ask();
        item();
        itemOrder();
        rest();
        d.end();
    }

    /** A sheet with these numbers, laid into a slot. */
    private static void laid(BarleyLine x, int slot, int sheet, int sort, int... numbers) {
        x.sheet(sheet, sort, numbers.length);
        for (int i = 0; i < numbers.length; i++) {
            x.mark(sheet, i, numbers[i]);
        }
        x.lay(slot, 2, sheet);
    }

    private static void sheets() {
        d.says("SHEETS 0 .. 3 are rows");
        BarleyLine x = new BarleyLine();
        for (int odd : new int[] {-1, 4, MIN, MAX}) {
            due("sheet " + odd, x.sheet(odd, 0, 1), BAD);
            due("mark " + odd, x.mark(odd, 0, 1), BAD);
            due("pour " + odd, x.pour(odd), BAD);
            due("reads " + odd, x.reads(odd), BAD);
            due("copy from " + odd, x.copy(odd, 0, 0, 0, 0), BAD);
            due("copy to " + odd, x.copy(0, 0, odd, 0, 0), BAD);
            due("lay " + odd, x.lay(0, 2, odd), BAD);
            due("whose " + odd, x.whose(odd, 0, 0), BAD);
        }
        for (int sheet = 0; sheet < 4; sheet++) {
            due("sheet " + sheet, x.sheet(sheet, 0, sheet + 1), sheet + 1);
            due("its last place", x.mark(sheet, sheet, 1), 1);
            due("behind it", x.mark(sheet, sheet + 1, 1), INDEX);
        }
        for (int sheet = 0; sheet < 4; sheet++) {
            due("reads " + sheet, x.reads(sheet), sheet);
        }
    }

    private static void places() {
        d.says("with 0 to 24 places");
        BarleyLine x = new BarleyLine();
        for (int sort = 0; sort < 2; sort++) {
            for (int n : new int[] {0, 1, 23, 24}) {
                due("sort " + sort + ", places " + n, x.sheet(0, sort, n), n);
                due("the last", x.mark(0, n - 1, 3), n == 0 ? INDEX : 1);
                due("behind it", x.mark(0, n, 3), INDEX);
                due("none below", x.mark(0, -1, 3), INDEX);
            }
            due("25", x.sheet(0, sort, 25), BAD);
            due("MAX", x.sheet(0, sort, MAX), BAD);
            due("-1", x.sheet(0, sort, -1), SIZE);
            due("MIN", x.sheet(0, sort, MIN), SIZE);
            due("24 stay", x.mark(0, 23, 3), 1);
        }
    }

    private static void missingAtFirst() {
        d.says("or MISSING (at first)");
        BarleyLine x = new BarleyLine();
        for (int sheet = 0; sheet < 4; sheet++) {
            due("mark", x.mark(sheet, 0, 0), NOTHING);
            due("pour", x.pour(sheet), NOTHING);
            due("reads", x.reads(sheet), NOTHING);
            due("copy", x.copy(sheet, 0, sheet, 0, 0), NOTHING);
            due("lay", x.lay(0, 2, sheet), NOTHING);
            due("whose", x.whose(sheet, 0, 0), NOTHING);
        }
        x.sheet(0, 1, 2);
        x.sheet(0, -1, 0);
        due("again", x.mark(0, 0, 0), NOTHING);
        due("again", x.reads(0), NOTHING);
    }

    private static void noNumber() {
        d.says("A place of floats may be NO NUMBER.");
        BarleyLine x = Scene.mules(3);
        x.sheet(0, 1, 3);
        for (int place = 0; place < 3; place++) {
            due("mark", x.mark(0, place, NONE), 1);
        }
        due("reads none", x.reads(0), NONE);
        due("pours none", x.pour(0), 0);
        due("differs by none", x.whose(0, 1, 1), 0);
        x.lay(0, 2, 0);
        due("is none", x.item(0, 2), KIND);
        due("a number again", x.mark(0, 2, 0), 1);
        x.lay(0, 2, 0);
        due("is one", x.item(0, 2), 0);
        x.mark(0, 1, NONE);
        x.sheet(0, 1, 3);
        x.lay(0, 2, 0);
        due("a new row has numbers", x.item(0, 1), 0);
    }

    private static void slots() {
        d.says("SLOTS 0 .. 4 each hold nothing (at first)");
        BarleyLine x = new BarleyLine();
        for (int odd : new int[] {-1, 5, MIN, MAX}) {
            due("lay " + odd, x.lay(odd, 0, 0), BAD);
            due("ask " + odd, x.ask(odd, 0), BAD);
            due("item " + odd, x.item(odd, 0), BAD);
            due("rest " + odd, x.rest(odd, 1), BAD);
        }
        for (int slot = 0; slot < 5; slot++) {
            due("lay " + slot, x.lay(slot, 3, 100 + slot), 0);
        }
        for (int slot = 0; slot < 5; slot++) {
            due("rest " + slot, x.rest(slot, 1000), 100 + slot);
        }
    }

    private static void nothingAtFirst() {
        d.says("NOTHING: a SHEET is MISSING, a SLOT holds nothing");
        BarleyLine x = new BarleyLine();
        for (int slot = 0; slot < 5; slot++) {
            due("ask", x.ask(slot, 0), NOTHING);
            due("item", x.item(slot, 0), NOTHING);
            due("rest", x.rest(slot, 1), NOTHING);
            x.lay(slot, 3, 7);
            due("a number", x.rest(slot, 5), 2);
            due("it held a number", x.lay(slot, 0, 0), 3);
            due("nothing again", x.rest(slot, 5), NOTHING);
            due("it held nothing", x.lay(slot, 0, 0), 0);
        }
    }

    private static void muleForGood() {
        d.says("a MULE (as it is then, for good)");
        BarleyLine x = new BarleyLine();
        x.keep();
        x.mule(4, 9, 10, 10);
        x.lay(0, 1, 0);
        x.set(0, 1, 0);
        due("pace is another", x.ask(0, 4), 10);
        x.turns(0, 0);
        due("kind is another", x.ask(0, 4), 10);
        due("kind is another", x.ask(0, 2), 10);
        x.lay(1, 1, 0);
        due("as it is now", x.ask(1, 0), 0);
        due("as it is now", x.ask(1, 4), KIND);
        x.back();
        due("there are no mules", x.count(0), 0);
        due("it is there still", x.ask(0, 4), 10);
        x.mule(1, 1, 1, 1);
        due("another of its number", x.ask(0, 4), 10);
    }

    private static void rowOfItsOwn() {
        d.says("a SHEET (a row of its own, as it was then)");
        BarleyLine x = new BarleyLine();
        laid(x, 0, 0, 0, 5, 6);
        x.mark(0, 0, 9);
        due("marked since", x.item(0, 0), 5);
        x.sheet(0, 1, 1);
        due("of another sort since", x.item(0, 1), 6);
        due("as long as then", x.item(0, 2), INDEX);
        x.sheet(0, -1, 0);
        due("missing since", x.item(0, 0), 5);
        laid(x, 1, 0, 1, 7);
        laid(x, 2, 0, 1, 8);
        due("two rows of one sheet", x.item(1, 0), 7);
        due("two rows of one sheet", x.item(2, 0), 8);
        x.keep();
        x.back();
        due("an image changes none", x.item(1, 0), 7);
    }

    private static void sheet() {
        d.says("A SHEET becomes a row of n places of a sort, all 0 (sort -1: MISSING, n any): n (0). BAD: sheet, sort, n above 24;"
                + " SIZE.");
        BarleyLine x = new BarleyLine();
        for (int sort : new int[] {-2, 2, MIN, MAX}) {
            due("sort " + sort, x.sheet(0, sort, 1), BAD);
            due("sort " + sort + ", size", x.sheet(0, sort, -1), BAD);
        }
        due("sheet ahead of size", x.sheet(4, 0, -1), BAD);
        due("sheet ahead of size", x.sheet(-1, 0, -1), BAD);
        for (int n : new int[] {0, 1, -1, 24, 25, MIN, MAX}) {
            x.sheet(0, 1, 2);
            due("missing, n " + n, x.sheet(0, -1, n), 0);
            due("is missing", x.reads(0), NOTHING);
            due("missing once more", x.sheet(0, -1, n), 0);
        }
        due("missing, sheet 4", x.sheet(4, -1, 0), BAD);
        due("missing, sheet -1", x.sheet(-1, -1, 0), BAD);
    }

    private static void sheetAllZero() {
        d.says("A SHEET becomes a row of n places of a sort, all 0");
        for (int sort = 0; sort < 2; sort++) {
            BarleyLine x = new BarleyLine();
            x.sheet(0, 1 - sort, 24);
            for (int place = 0; place < 24; place++) {
                x.mark(0, place, place + 1);
            }
            x.sheet(0, sort, 24);
            x.lay(0, 2, 0);
            for (int place = 0; place < 24; place++) {
                due("place " + place, x.item(0, place), 0);
            }
            x.mark(0, 23, 9);
            x.sheet(0, sort, 3);
            x.sheet(0, sort, 24);
            x.lay(0, 2, 0);
            due("shorter, and long again", x.item(0, 23), 0);
        }
    }

    private static void mark() {
        d.says("INDEX: there is no such place");
        BarleyLine x = new BarleyLine();
        for (int sort = 0; sort < 2; sort++) {
            x.sheet(sort, sort, 5);
            for (int odd : new int[] {-1, 5, 23, 24, MIN, MAX}) {
                due("mark place " + odd, x.mark(sort, odd, 1), INDEX);
            }
            due("the first", x.mark(sort, 0, 1), 1);
            due("the last", x.mark(sort, 4, 2), 1);
            x.lay(0, 2, sort);
            for (int odd : new int[] {-1, 5, 23, 24, MIN, MAX}) {
                due("item place " + odd, x.item(0, odd), INDEX);
            }
            due("the first", x.item(0, 0), 1);
            due("the last", x.item(0, 4), 2);
            due("between", x.item(0, 3), 0);
        }
    }

    private static void markShorts() {
        d.says("(of shorts its lowest 16 bits");
        int[] v = {0, 1, -1, 32767, 32768, 65535, 65536, -32768, -32769, 65537, 100000, MIN, MAX, BAD, NONE + 1};
        int[] is = {0, 1, -1, 32767, -32768, -1, 0, -32768, 32767, 1, -31072, 0, -1, 13823, 13820};
        BarleyLine x = new BarleyLine();
        x.sheet(0, 0, 1);
        for (int i = 0; i < v.length; i++) {
            due("mark " + v[i], x.mark(0, 0, v[i]), 1);
            x.lay(0, 2, 0);
            due("is " + v[i], x.item(0, 0), is[i]);
        }
        due("NONE", x.mark(0, 0, NONE), KIND);
        x.lay(0, 2, 0);
        due("stays", x.item(0, 0), 13820);
    }

    private static void markFloats() {
        d.says("of floats v, -99999 .. 99999; NONE: NO NUMBER");
        BarleyLine x = new BarleyLine();
        x.sheet(0, 1, 1);
        for (int v : new int[] {0, 1, -1, 32768, 65536, 99998, 99999, -99998, -99999}) {
            due("mark " + v, x.mark(0, 0, v), 1);
            x.lay(0, 2, 0);
            due("is " + v, x.item(0, 0), v);
        }
        for (int v : new int[] {100000, -100000, MIN, MAX, BAD, NONE - 1, NONE + 1}) {
            due("mark " + v, x.mark(0, 0, v), BAD);
            x.lay(0, 2, 0);
            due("stays", x.item(0, 0), -99999);
        }
        due("NONE", x.mark(0, 0, NONE), 1);
        x.lay(0, 2, 0);
        due("no number", x.item(0, 0), KIND);
    }

    private static void markOrder() {
        d.says("BAD: sheet; NOTHING; INDEX; KIND: NONE in a row of shorts; BAD: v of floats.");
        BarleyLine x = new BarleyLine();
        due("sheet first", x.mark(4, 99, NONE), BAD);
        due("nothing ahead of index", x.mark(0, 99, NONE), NOTHING);
        x.sheet(0, 0, 2);
        x.sheet(1, 1, 2);
        due("index ahead of kind", x.mark(0, 2, NONE), INDEX);
        due("index ahead of bad", x.mark(1, 2, 100000), INDEX);
        due("kind", x.mark(0, 1, NONE), KIND);
        due("bad", x.mark(1, 1, 100000), BAD);
    }

    private static void pour() {
        d.says("HOLES of MULES, by numbers, become the places of a SHEET from 0 on");
        BarleyLine x = Scene.mules(8);
        x.sheet(0, 1, 8);
        due("all as they are", x.pour(0), 0);
        for (int i = 0; i < 8; i++) {
            x.mark(0, i, i + 1);
        }
        due("all otherwise", x.pour(0), 8);
        for (int i = 0; i < 8; i++) {
            due("hole of " + i, x.told(i, 4), i + 1);
        }
        due("none otherwise", x.pour(0), 0);
        x.mark(0, 7, 20);
        due("one otherwise", x.pour(0), 1);
        due("no mules", nobody(), 0);
    }

    private static int nobody() {
        BarleyLine x = new BarleyLine();
        x.sheet(0, 0, 24);
        return x.pour(0);
    }

    private static void pourHeld() {
        d.says("(each held within 0 .. 50");
        BarleyLine x = Scene.mules(8);
        int[] v = {-99999, -1, 0, 1, 49, 50, 51, 99999};
        int[] holes = {0, 0, 0, 1, 49, 50, 50, 50};
        x.sheet(0, 1, 8);
        for (int i = 0; i < 8; i++) {
            x.mark(0, i, v[i]);
        }
        due("otherwise", x.pour(0), 5);
        for (int i = 0; i < 8; i++) {
            due("hole by " + v[i], x.told(i, 4), holes[i]);
        }
        due("held once more: none is otherwise", x.pour(0), 0);
        x.sheet(1, 0, 2);
        x.mark(1, 0, 32768);
        x.mark(1, 1, 32767);
        due("shorts", x.pour(1), 1);
        due("below 0", x.told(0, 4), 0);
        due("above 50", x.told(1, 4), 50);
    }

    private static void pourBeyond() {
        d.says("NO NUMBER, and beyond the SHEET: they stay): how many are otherwise then. BAD; NOTHING.");
        BarleyLine x = new BarleyLine();
        for (int i = 0; i < 8; i++) {
            x.mule(0, 0, 0, 30);
        }
        x.sheet(0, 1, 0);
        due("no places", x.pour(0), 0);
        x.sheet(0, 1, 3);
        x.mark(0, 0, NONE);
        x.mark(0, 2, NONE);
        due("one number", x.pour(0), 1);
        int[] holes = {30, 0, 30, 30, 30, 30, 30, 30};
        for (int i = 0; i < 8; i++) {
            due("hole of " + i, x.told(i, 4), holes[i]);
        }
        x.sheet(1, 0, 24);
        x.mark(1, 7, 30);
        x.mark(1, 8, 9);
        due("more places than mules", x.pour(1), 6);
        due("the last mule", x.told(7, 4), 30);
        due("nothing", x.pour(2), NOTHING);
        due("sheet 4", x.pour(4), BAD);
        due("sheet -1", x.pour(-1), BAD);
    }

    private static void reads() {
        d.says("The first place (of numbers alone) at which a SHEET is not GRAINS of the YARD with that number. BAD; NOTHING; NONE:"
                + " there is none.");
        BarleyLine x = Scene.mules(1);
        Scene.heap(x, 23, 4);
        Scene.heap(x, 24, 4);
        x.sheet(0, 0, 0);
        due("no places", x.reads(0), NONE);
        x.sheet(0, 0, 23);
        due("23 places", x.reads(0), NONE);
        x.sheet(0, 1, 24);
        due("the last place", x.reads(0), 23);
        x.mark(0, 23, 4);
        due("as it lies", x.reads(0), NONE);
        x.mark(0, 23, 5);
        due("one more", x.reads(0), 23);
        x.mark(0, 23, -4);
        due("signs count", x.reads(0), 23);
        x.mark(0, 5, 1);
        x.mark(0, 6, 1);
        due("the first", x.reads(0), 5);
        x.mark(0, 5, NONE);
        due("of numbers alone", x.reads(0), 6);
        x.mark(0, 0, -1);
        due("place 0", x.reads(0), 0);
        due("nothing", x.reads(1), NOTHING);
        due("sheet 4", x.reads(4), BAD);
        due("sheet -1", x.reads(-1), BAD);
    }

    private static void copy() {
        d.says("So many places of a SHEET come to another one (or the same), as they were: many.");
        BarleyLine x = new BarleyLine();
        for (int sort = 0; sort < 2; sort++) {
            laid(x, 0, 0, sort, 1, 2, 3, 4);
            laid(x, 1, 1, sort, 11, 12, 13);
            due("none", x.copy(0, 0, 1, 0, 0), 0);
            placesDue(x, 1, 11, 12, 13);
            due("one, the last to the last", x.copy(0, 3, 1, 2, 1), 1);
            placesDue(x, 1, 11, 12, 4);
            due("all of the shorter", x.copy(0, 1, 1, 0, 3), 3);
            placesDue(x, 1, 2, 3, 4);
            placesDue(x, 0, 1, 2, 3, 4);
        }
        x.mark(0, 1, NONE);
        x.copy(0, 1, 1, 0, 1);
        x.lay(0, 2, 1);
        due("no number comes too", x.item(0, 0), KIND);
        x.sheet(2, 0, 24);
        x.sheet(3, 0, 24);
        x.mark(2, 23, 7);
        due("all of 24", x.copy(2, 0, 3, 0, 24), 24);
        x.lay(0, 2, 3);
        due("the last", x.item(0, 23), 7);
        due("25", x.copy(2, 0, 3, 0, 25), INDEX);
    }

    private static void placesDue(BarleyLine x, int sheet, int... wanted) {
        x.lay(4, 2, sheet);
        for (int i = 0; i < wanted.length; i++) {
            due("sheet " + sheet + ", place " + i, x.item(4, i), wanted[i]);
        }
        due("sheet " + sheet + ", its end", x.item(4, wanted.length), INDEX);
    }

    private static void copyEdges() {
        d.says("KIND: they are not of one sort; INDEX.");
        BarleyLine x = new BarleyLine();
        x.sheet(0, 1, 4);
        x.sheet(1, 1, 3);
        x.sheet(2, 1, 0);
        due("at the ends, none", x.copy(0, 4, 1, 3, 0), 0);
        due("beyond the end of from", x.copy(0, 5, 1, 0, 0), INDEX);
        due("beyond the end of to", x.copy(0, 0, 1, 4, 0), INDEX);
        due("of no places, none", x.copy(2, 0, 2, 0, 0), 0);
        due("of no places, one", x.copy(2, 0, 0, 0, 1), INDEX);
        due("to no places, one", x.copy(0, 0, 2, 0, 1), INDEX);
        due("one too many of from", x.copy(1, 0, 0, 0, 4), INDEX);
        due("one too many of to", x.copy(0, 0, 1, 0, 4), INDEX);
        due("one too many behind place", x.copy(0, 2, 1, 0, 3), INDEX);
        due("one too many behind at", x.copy(0, 0, 1, 1, 3), INDEX);
        due("place below 0", x.copy(0, -1, 1, 0, 1), INDEX);
        due("at below 0", x.copy(0, 0, 1, -1, 1), INDEX);
        due("place below 0, none", x.copy(0, -1, 1, 0, 0), INDEX);
        due("at below 0, none", x.copy(0, 0, 1, -1, 0), INDEX);
        due("many below 0", x.copy(0, 1, 1, 1, -1), INDEX);
        int[] odd = {MIN, MAX};
        for (int v : odd) {
            due("place " + v, x.copy(0, v, 1, 0, 1), INDEX);
            due("at " + v, x.copy(0, 0, 1, v, 1), INDEX);
            due("many " + v, x.copy(0, 0, 1, 0, v), INDEX);
            due("many " + v + " behind 1", x.copy(0, 1, 1, 1, v), INDEX);
        }
        due("a sum that wraps", x.copy(0, MAX, 1, 0, MAX), INDEX);
        due("a sum that wraps", x.copy(0, 0, 1, MAX, MAX), INDEX);
        due("a sum that wraps", x.copy(0, MIN, 1, MIN, MIN), INDEX);
    }

    private static void copyAsTheyWere() {
        d.says("come to another one (or the same), as they were");
        BarleyLine x = new BarleyLine();
        laid(x, 0, 0, 1, 1, 2, 3, 4, 5);
        due("up", x.copy(0, 0, 0, 1, 4), 4);
        placesDue(x, 0, 1, 1, 2, 3, 4);
        due("down", x.copy(0, 1, 0, 0, 4), 4);
        placesDue(x, 0, 1, 2, 3, 4, 4);
        due("onto itself", x.copy(0, 0, 0, 0, 5), 5);
        placesDue(x, 0, 1, 2, 3, 4, 4);
        laid(x, 0, 1, 0, 1, 2, 3, 4, 5);
        due("up by two", x.copy(1, 0, 1, 2, 3), 3);
        placesDue(x, 1, 1, 2, 1, 2, 3);
    }

    private static void copyOrder() {
        d.says("BAD; NOTHING; KIND: they are not of one sort; INDEX.");
        BarleyLine x = new BarleyLine();
        x.sheet(0, 0, 2);
        x.sheet(1, 1, 2);
        due("bad ahead of nothing", x.copy(2, 0, 4, 0, 0), BAD);
        due("bad ahead of nothing", x.copy(-1, 0, 2, 0, 0), BAD);
        due("nothing ahead of index", x.copy(2, 9, 0, 9, 9), NOTHING);
        due("nothing ahead of index", x.copy(0, 9, 2, 9, 9), NOTHING);
        due("kind ahead of index", x.copy(0, 9, 1, 9, 9), KIND);
        due("kind ahead of index", x.copy(1, -1, 0, 0, -1), KIND);
        due("kind of none", x.copy(0, 0, 1, 0, 0), KIND);
        due("index", x.copy(0, 9, 0, 9, 9), INDEX);
    }

    private static void lay() {
        d.says("A SLOT holds: thing 0 nothing, 1 MULE k, 2 SHEET k, 3 the number k");
        BarleyLine x = new BarleyLine();
        for (int odd : new int[] {-1, 4, MIN, MAX}) {
            due("thing " + odd, x.lay(0, odd, 0), BAD);
        }
        due("no mules", x.lay(0, 1, 0), BAD);
        for (int i = 0; i < 8; i++) {
            x.mule(0, i, 0, 0);
            due("mule " + i, x.lay(0, 1, i), i == 0 ? 0 : 1);
            due("is " + i, x.ask(0, 0), 9 * i);
            due("the next", x.lay(0, 1, i + 1), BAD);
        }
        for (int odd : new int[] {-1, 8, MIN, MAX}) {
            due("mule " + odd, x.lay(0, 1, odd), BAD);
        }
        for (int odd : new int[] {-1, 4, MIN, MAX}) {
            due("sheet " + odd, x.lay(0, 2, odd), BAD);
        }
        due("mule 7 is held still", x.ask(0, 0), 63);
        for (int k : new int[] {0, -1, MIN, MAX, NONE}) {
            due("the number " + k, x.lay(1, 3, k), k == 0 ? 0 : 3);
            due("its rest", x.rest(1, MAX), k % MAX);
            due("nothing, k any", x.lay(2, 0, k), 0);
        }
        x.sheet(3, 0, 0);
        due("a sheet of no places", x.lay(3, 2, 3), 0);
        due("it is a sheet", x.item(3, 0), INDEX);
    }

    private static void layHeld() {
        d.says("what it held (0 .. 3). BAD: slot, thing, k; NOTHING: that SHEET is MISSING.");
        BarleyLine x = Scene.mules(1);
        x.sheet(0, 0, 1);
        for (int first = 0; first <= 3; first++) {
            for (int second = 0; second <= 3; second++) {
                x.lay(4, first, 0);
                due("it held " + first, x.lay(4, second, 0), first);
            }
        }
        x.lay(4, 3, 77);
        due("missing", x.lay(4, 2, 1), NOTHING);
        due("stays", x.rest(4, 100), 77);
        due("no such mule", x.lay(4, 1, 1), BAD);
        due("stays", x.rest(4, 100), 77);
        due("slot ahead of nothing", x.lay(5, 2, 1), BAD);
        due("no such sheet", x.lay(4, 2, 4), BAD);
        due("other slots hold nothing", x.lay(3, 0, 0), 0);
    }

    private static void ask() {
        d.says("WORTH of the MULE in a SLOT, taken for one of a KIND (0 .. 5). BAD; NOTHING; KIND: it is no MULE, or not of that"
                + " KIND, nor of one under it.");
        BarleyLine x = new BarleyLine();
        int[] worth = {81, 87, 18, 174, 10, 4};
        String[] above = {"0", "01", "02", "013", "024", "05"};
        for (int kind = 0; kind < 6; kind++) {
            x.mule(kind, 9, 0, 0);
            x.lay(0, 1, kind);
            for (int asked = 0; asked < 6; asked++) {
                boolean is = above[kind].indexOf('0' + asked) >= 0;
                due(kind + " asked as " + asked, x.ask(0, asked), is ? worth[kind] : KIND);
            }
            due("kind -1", x.ask(0, -1), BAD);
            due("kind 6", x.ask(0, 6), BAD);
        }
        due("nothing", x.ask(1, 5), NOTHING);
        due("bad ahead of nothing", x.ask(1, 6), BAD);
        due("bad ahead of nothing", x.ask(1, -1), BAD);
        x.sheet(0, 0, 1);
        x.lay(1, 2, 0);
        due("a sheet", x.ask(1, 0), KIND);
        due("bad ahead of kind", x.ask(1, 6), BAD);
        x.lay(1, 3, 0);
        due("a number", x.ask(1, 0), KIND);
        due("slot -1", x.ask(-1, 0), BAD);
        due("slot 5", x.ask(5, 0), BAD);
    }

    private static void item() {
        d.says("A place of the SHEET in a SLOT.");
        BarleyLine x = new BarleyLine();
        x.sheet(0, 1, 24);
        x.mark(0, 0, -99999);
        x.mark(0, 23, 99999);
        x.lay(4, 2, 0);
        due("the first", x.item(4, 0), -99999);
        due("the last", x.item(4, 23), 99999);
        due("beyond", x.item(4, 24), INDEX);
        due("below", x.item(4, -1), INDEX);
        x.sheet(0, 0, 0);
        x.lay(4, 2, 0);
        due("no places", x.item(4, 0), INDEX);
        due("no places", x.item(4, -1), INDEX);
    }

    private static void itemOrder() {
        d.says("BAD: slot; NOTHING; KIND: it is no SHEET; INDEX; KIND: NO NUMBER.");
        BarleyLine x = Scene.mules(1);
        due("slot", x.item(5, 0), BAD);
        due("slot", x.item(-1, 0), BAD);
        due("nothing ahead of index", x.item(0, 99), NOTHING);
        x.lay(0, 1, 0);
        due("a mule, ahead of index", x.item(0, 99), KIND);
        x.lay(0, 3, 0);
        due("a number, ahead of index", x.item(0, -1), KIND);
        laid(x, 0, 0, 1, NONE, 3);
        due("index", x.item(0, 2), INDEX);
        due("no number", x.item(0, 0), KIND);
        due("a number", x.item(0, 1), 3);
    }

    private static void rest() {
        d.says("The rest of the number in a SLOT by n. BAD: slot; NOTHING; KIND: it is no number; NO: n is 0.");
        BarleyLine x = Scene.mules(1);
        due("slot ahead of no", x.rest(5, 0), BAD);
        due("slot ahead of no", x.rest(-1, 0), BAD);
        due("nothing ahead of no", x.rest(0, 0), NOTHING);
        x.lay(0, 1, 0);
        due("a mule, ahead of no", x.rest(0, 0), KIND);
        due("a mule", x.rest(0, 1), KIND);
        x.sheet(0, 0, 1);
        x.lay(0, 2, 0);
        due("a sheet, ahead of no", x.rest(0, 0), KIND);
        due("a sheet", x.rest(0, 1), KIND);
        int[][] rests = {{0, 5, 0}, {17, 5, 2}, {17, -5, 2}, {-17, 5, -2}, {-17, -5, -2}, {17, 1, 0}, {17, -1, 0}, {4, 5, 4},
            {5, 5, 0}, {MIN, -1, 0}, {MIN, MIN, 0}, {MIN, MAX, -1}, {MAX, MIN, MAX}, {MAX, MAX, 0}, {-1, MIN, -1}};
        for (int[] r : rests) {
            x.lay(0, 3, r[0]);
            due(r[0] + " by " + r[1], x.rest(0, r[1]), r[2]);
            due(r[0] + " by 0", x.rest(0, 0), NO);
        }
    }
}
