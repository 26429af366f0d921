/** The edges of part 3 of the document, TRAIL and what is only thought, and of promises 15 to 20. */
public final class ThoughtEdgesTest {
    private static final int BAD = -1000000001, NONE = -1000000005, NOTHING = -1000000011;
    private static final int MIN = Integer.MIN_VALUE, MAX = Integer.MAX_VALUE;
    private static final int PACE = 1, YARD = 2, GRAIN = 3, HOLE = 4;
    private static final Dues d = new Dues("ThoughtEdgesTest");

    private static void due(String call, int got, int want) {
        d.due(call, got, want);
    }

    public static void main(String[] args) {
        trail();
        nothingChanges();
        zAsItIs();
        withoutTheBound();
        behind();
        behindWhat();
        empty();
        emptyAtMost();
        emptyAtTheEnd();
        thickest();
        thickestOfSeveral();
        patch();
        patchOfSeveral();
        patchedNow();
        pan();
        panAtTheEnd();
        panTakesAll();
        whose();
        whoseOfSeveral();
        whosePlaces();
        whoseOthers();
        d.end();
    }

    private static void trail() {
        d.says("TRAIL: the most YARDS one behind the other on which there are GRAINS (1 or more on each).");
        BarleyLine x = Scene.mules(1);
        due("nothing lies", x.way(6), 0);
        Scene.heap(x, 0, 1);
        due("one grain on the first", x.way(6), 1);
        x.sweep(0);
        Scene.heapAtTheEnd(x, 1);
        due("one grain on the last", x.way(6), 1);
        Scene.heap(x, 57, 1);
        due("a gap", x.way(6), 1);
        Scene.heap(x, 58, 50);
        due("three at the end", x.way(6), 3);
        Scene.heap(x, 0, 1);
        Scene.heap(x, 1, 1);
        due("two at the beginning", x.way(6), 3);
        Scene.heap(x, 2, 1);
        due("three and three", x.way(6), 3);
        Scene.heap(x, 3, 1);
        due("four at the beginning", x.way(6), 4);
        x.sweep(1);
        due("one and two, and three at the end", x.way(6), 3);
        BarleyLine all = new BarleyLine();
        all.mule(0, 1, 59, 1);
        all.minutes(59);
        due("all but the last", all.way(6), 59);
        Scene.heapAtTheEnd(all, 1);
        due("all but the one before the last", all.way(6), 58);
        Scene.heap(all, 58, 1);
        due("all", all.way(6), 60);
        all.sweep(30);
        due("30 and 29", all.way(6), 30);
        BarleyLine green = Scene.mules(1);
        Scene.heap(green, 5, 10);
        Scene.heap(green, 6, 10);
        green.rain();
        green.sweep(5);
        due("green is none", green.way(6), 1);
    }

    private static void nothingChanges() {
        d.says("nothing changes.");
        Twins.Way[] ways = {x -> { }, Twins::busy, Twins::full, Twins::late};
        for (Twins.Way way : ways) {
            BarleyLine other = new BarleyLine();
            way.go(other);
            boolean mules = other.count(0) > 0;
            boolean sheet = other.reads(0) != NOTHING;
            for (int n : new int[] {0, 1, 60, 100}) {
                same("behind " + n, way, x -> x.behind(n, 0), other.behind(n, 0));
                same("thickest " + n, way, x -> x.thickest(n, 1), other.thickest(n, 1));
            }
            same("empty", way, BarleyLine::empty, other.empty());
            same("patch", way, x -> x.patch(60, 1), mules ? other.patch(60, 1) : NONE);
            same("pan", way, x -> x.pan(1, 60), other.pan(1, 60));
            same("whose", way, x -> x.whose(0, 60, 1), sheet ? other.whose(0, 60, 1) : NOTHING);
            same("fee", way, BarleyLine::fee, other.fee());
            same("fine", way, x -> x.fine(0), mules ? other.fine(0) : BAD);
        }
    }

    private static void same(String what, Twins.Way way, Twins.Call call, int want) {
        Twins.nothingChanges(d, what, way, call, want);
    }

    private static void zAsItIs() {
        d.says("(All that follows is only thought, from now on, z as it is");
        for (int seed : new int[] {1, 0, -1, MIN, MAX}) {
            BarleyLine x = Scene.mules(1);
            Scene.heap(x, 30, 40);
            x.set(0, GRAIN, 1000);
            x.rule(0, 9);
            x.rule(1, 90);
            x.rule(2, 3);
            x.seed(seed);
            int grains = x.behind(50, 0);
            int eaten = x.behind(50, 1);
            int blown = x.behind(50, 2);
            int thickest = x.thickest(50, 0);
            int most = x.thickest(50, 1);
            due("the same twice", x.behind(50, 0), grains);
            due("z", x.count(9), seed);
            x.minutes(50);
            due("grains", grains, x.way(0));
            due("eaten", eaten, x.way(3));
            due("blown", blown, x.way(4));
            due("thickest", most, x.yard(thickest, 0));
        }
    }

    private static void withoutTheBound() {
        d.says("without the bound of THE MINUTE");
        BarleyLine x = Scene.atMinute(9999);
        x.mule(0, 0, 1000, 1);
        x.mule(0, 1, 1000, 2);
        x.sheet(0, 1, 3);
        due("behind", x.behind(100, 3), 900);
        due("empty", x.empty(), NONE);
        x.set(0, GRAIN, 300);
        due("empty", x.empty(), 300);
        due("thickest", x.thickest(100, 1), 102);
        due("patch", x.patch(10, 1), 300 + 980);
        due("pan", x.pan(0, 10), 12);
        due("whose", x.whose(0, 10, 1), 6);
        x.rule(3, 9);
        due("THE MINUTE 9999 has the rest 4", x.behind(2, 3), 300 - 1 - 10);
        due("none pass", x.minutes(1), 0);
    }

    private static void behind() {
        d.says("BEHIND n (0 .. 100) MINUTES");
        BarleyLine x = Scene.mules(1);
        Scene.heap(x, 3, 8);
        x.set(0, GRAIN, 9999);
        x.set(0, HOLE, 2);
        due("0", x.behind(0, 0), 8);
        due("0", x.behind(0, 3), 9999);
        due("1", x.behind(1, 0), 10);
        due("99", x.behind(99, 0), 206);
        due("100", x.behind(100, 0), 208);
        due("100", x.behind(100, 3), 9799);
        for (int n : new int[] {-1, 101, MIN, MAX}) {
            due("behind " + n, x.behind(n, 0), BAD);
        }
    }

    private static void behindWhat() {
        d.says("what 0 GRAINS, 1 EATEN, 2 BLOWN; 3 and k: GRAIN of MULE k. BAD.");
        for (int many = 0; many <= 8; many++) {
            BarleyLine x = new BarleyLine();
            for (int k = 0; k < many; k++) {
                x.mule(0, 0, 100 + k, 1);
            }
            due("grains of " + many, x.behind(1, 0), many);
            due("eaten of " + many, x.behind(1, 1), 0);
            due("blown of " + many, x.behind(1, 2), 0);
            for (int k = 0; k < many; k++) {
                due("mule " + k + " of " + many, x.behind(1, 3 + k), 99 + k);
            }
            due("one mule more than " + many, x.behind(1, 3 + many), BAD);
            for (int what : new int[] {-1, 11, MIN, MAX}) {
                due("what " + what, x.behind(1, what), BAD);
            }
        }
        BarleyLine x = Scene.mules(1);
        Scene.heap(x, 0, 20);
        x.rule(0, 4);
        x.rule(1, 100);
        x.rule(2, -1);
        x.seed(Lot.minute(0, Lot.ANY, 0));
        due("eaten", x.behind(1, 1), 4);
        due("blown", x.behind(1, 2), 8);
        x.minutes(1);
        due("what has been eaten, too", x.behind(0, 1), 4);
        due("what has been blown, too", x.behind(0, 2), 8);
    }

    private static void empty() {
        d.says("EMPTY: behind how many MINUTES (0 .. 300) each MULE has no GRAIN or is at YARD 59 first.");
        BarleyLine x = new BarleyLine();
        due("no mules", x.empty(), 0);
        x.mule(0, 0, 0, 0);
        due("no grain", x.empty(), 0);
        x.set(0, GRAIN, 1);
        x.set(0, HOLE, 1);
        due("one grain", x.empty(), 1);
        x.set(0, HOLE, 50);
        x.set(0, GRAIN, 50);
        due("fifty at once", x.empty(), 1);
        x.set(0, GRAIN, 51);
        due("51", x.empty(), 2);
        for (int i = 1; i < 8; i++) {
            x.mule(0, 0, 0, 0);
        }
        x.set(7, GRAIN, 9);
        x.set(7, HOLE, 1);
        due("the last mule too", x.empty(), 9);
        x.set(7, HOLE, 0);
        due("never", x.empty(), NONE);
    }

    private static void emptyAtMost() {
        d.says("EMPTY. NONE: not by then.");
        for (int grain : new int[] {299, 300, 301, 302}) {
            BarleyLine x = new BarleyLine();
            x.mule(0, 0, grain, 1);
            due("grain " + grain, x.empty(), grain <= 300 ? grain : NONE);
        }
        BarleyLine x = new BarleyLine();
        x.mule(0, 0, 9999, 50);
        due("200 by 50", x.empty(), 200);
        x.set(0, HOLE, 33);
        due("303 by 33", x.empty(), NONE);
        x.set(0, HOLE, 34);
        due("295 by 34", x.empty(), 295);
    }

    private static void emptyAtTheEnd() {
        d.says("each MULE has no GRAIN or is at YARD 59 first");
        BarleyLine x = new BarleyLine();
        x.mule(0, 1, 9999, 0);
        due("59 yards", x.empty(), 59);
        x.set(0, YARD, 58);
        due("one yard", x.empty(), 1);
        x.set(0, YARD, 59);
        due("there", x.empty(), 0);
        x.set(0, YARD, 58);
        x.set(0, PACE, 0);
        due("stands before it", x.empty(), NONE);
        x.set(0, PACE, 9);
        x.set(0, YARD, 0);
        due("six times nine is 54", x.empty(), 7);
        x.mule(0, 1, 3, 1);
        due("the one by grain, the other at the end", x.empty(), 7);
        x.set(1, GRAIN, 8);
        due("the later", x.empty(), 8);
    }

    private static void thickest() {
        d.says("THICKEST for n (0 .. 100): what 0 the YARD, 1 GRAINS. BAD.");
        BarleyLine x = Scene.mules(1);
        due("nothing lies: yard", x.thickest(0, 0), 0);
        due("nothing lies: grains", x.thickest(0, 1), 0);
        Scene.heap(x, 7, 5);
        due("yard", x.thickest(0, 0), 7);
        due("grains", x.thickest(0, 1), 5);
        x.set(0, YARD, 8);
        x.set(0, GRAIN, 200);
        x.set(0, HOLE, 2);
        due("behind 1", x.thickest(1, 0), 7);
        due("behind 2", x.thickest(2, 1), 5);
        due("behind 3", x.thickest(3, 0), 8);
        due("behind 99", x.thickest(99, 1), 198);
        due("behind 100", x.thickest(100, 1), 200);
        for (int n : new int[] {-1, 101, MIN, MAX}) {
            due("behind " + n, x.thickest(n, 0), BAD);
            due("behind " + n, x.thickest(n, 1), BAD);
        }
        for (int what : new int[] {-1, 2, MIN, MAX}) {
            due("what " + what, x.thickest(0, what), BAD);
        }
    }

    private static void thickestOfSeveral() {
        d.says("THICKEST for n: the YARD with most GRAINS behind n MINUTES; of several the least.");
        BarleyLine x = Scene.mules(1);
        Scene.heapAtTheEnd(x, 9);
        due("the last yard", x.thickest(0, 0), 59);
        due("the last yard", x.thickest(0, 1), 9);
        Scene.heap(x, 58, 9);
        due("58 and 59", x.thickest(0, 0), 58);
        Scene.heap(x, 0, 9);
        due("0, 58 and 59", x.thickest(0, 0), 0);
        Scene.heap(x, 1, 10);
        due("one more on 1", x.thickest(0, 0), 1);
        Scene.heap(x, 30, 10);
        due("1 and 30", x.thickest(0, 0), 1);
    }

    private static void patch() {
        d.says("PATCH for n (1 .. 60): what 0 the MULE, 1 GRAIN of all. BAD; NONE: there are no MULES.");
        BarleyLine x = new BarleyLine();
        due("no mules", x.patch(1, 0), NONE);
        due("no mules", x.patch(60, 1), NONE);
        x.mule(0, 0, 1000, 10);
        for (int n : new int[] {0, 61, -1, MIN, MAX}) {
            due("for " + n, x.patch(n, 0), BAD);
            due("for " + n, new BarleyLine().patch(n, 0), BAD);
        }
        for (int what : new int[] {-1, 2, MIN, MAX}) {
            due("what " + what, x.patch(1, what), BAD);
            due("what " + what, new BarleyLine().patch(1, what), BAD);
        }
        due("for 1: the mule", x.patch(1, 0), 0);
        due("for 1: grain", x.patch(1, 1), 995);
        due("for 60: the mule", x.patch(60, 0), 0);
        due("for 60: grain", x.patch(60, 1), 700);
    }

    private static void patchOfSeveral() {
        d.says("PATCH for n: the MULE that, if it were PATCHED now, leaves most GRAIN of all MULES, together, behind n MINUTES; of"
                + " several the least.");
        BarleyLine x = new BarleyLine();
        for (int i = 0; i < 8; i++) {
            x.mule(0, 0, 1000, 10);
        }
        due("all the same", x.patch(10, 0), 0);
        due("all the same: grain", x.patch(10, 1), 8 * 900 + 50);
        x.set(7, HOLE, 12);
        due("the last", x.patch(10, 0), 7);
        due("the last: grain", x.patch(10, 1), 7 * 900 + 940);
        x.set(3, HOLE, 12);
        due("3 and 7", x.patch(10, 0), 3);
        x.set(3, HOLE, 11);
        due("half of 11 is 5: 3 is as good as 7", x.patch(10, 0), 3);
        due("6 a minute, both", x.patch(10, 1), 6 * 900 + 890 + 940);
        for (int i = 0; i < 8; i++) {
            x.set(i, GRAIN, 0);
        }
        due("no grain", x.patch(60, 0), 0);
        due("no grain", x.patch(60, 1), 0);
    }

    private static void patchedNow() {
        d.says("the MULE that, if it were PATCHED now");
        BarleyLine x = new BarleyLine();
        x.mule(3, 0, 100, 10);
        due("sewn would lose more", x.patch(1, 1), 95);
        x.mule(1, 0, 100, 10);
        due("patched stays", x.patch(1, 0), 1);
        due("patched stays: grain", x.patch(1, 1), 97 + 95);
        x.turns(0, 2);
        due("torn", x.patch(1, 0), 0);
        due("torn: grain", x.patch(1, 1), 95 + 95);
        BarleyLine end = new BarleyLine();
        end.mule(0, 9, 1000, 10);
        end.mule(2, 1, 1000, 6);
        end.set(0, YARD, 58);
        due("the one at the end leaks once", end.patch(2, 0), 1);
        due("and goes as patched", end.patch(60, 1), 990 + 1000 - 59 * 3);
    }

    private static void pan() {
        d.says("PAN of a pace (0 .. 9), for n (1 .. 60). BAD.");
        BarleyLine x = Scene.mules(1);
        Scene.heap(x, 0, 3);
        Scene.heap(x, 9, 4);
        Scene.heap(x, 54, 5);
        due("pace 0, one minute", x.pan(0, 1), 3);
        due("pace 0, 60 minutes", x.pan(0, 60), 3);
        due("pace 9, one minute", x.pan(9, 1), 4);
        due("pace 9, 5 minutes", x.pan(9, 5), 4);
        due("pace 9, 6 minutes", x.pan(9, 6), 9);
        due("pace 9, 60 minutes", x.pan(9, 60), 9);
        due("pace 1, 8 minutes", x.pan(1, 8), 0);
        due("pace 1, 9 minutes", x.pan(1, 9), 4);
        for (int odd : new int[] {-1, 10, MIN, MAX}) {
            due("pace " + odd, x.pan(odd, 1), BAD);
        }
        for (int n : new int[] {0, 61, -1, MIN, MAX}) {
            due("for " + n, x.pan(1, n), BAD);
        }
    }

    private static void panAtTheEnd() {
        d.says("who behind the k-th of n MINUTES (k from 1 on) takes all GRAINS of the YARD pace times k (59 at most)");
        BarleyLine x = Scene.mules(1);
        Scene.heapAtTheEnd(x, 9);
        due("54", x.pan(9, 6), 0);
        due("63 is 59", x.pan(9, 7), 9);
        due("58", x.pan(1, 58), 0);
        due("59", x.pan(1, 59), 9);
        due("60 is 59", x.pan(1, 60), 9);
        due("56", x.pan(8, 7), 0);
        due("64 is 59", x.pan(8, 8), 9);
        due("58", x.pan(2, 29), 0);
        due("60 is 59", x.pan(2, 30), 9);
        Scene.heap(x, 0, 5);
        Scene.heap(x, 1, 6);
        due("k from 1 on", x.pan(1, 1), 6);
        due("none on yard 0", x.pan(1, 60), 15);
        Scene.heap(x, 58, 8);
        x.rule(1, 100);
        x.rule(2, 1);
        x.sweep(59);
        x.seed(Lot.minute(Lot.ANY, Lot.ANY, 58));
        x.keep();
        int brought = 0;
        int last = 0;
        for (int k = 1; k <= 60; k++) {
            x.minutes(1);
            last = x.yard(59, 0);
            brought += k >= 7 ? x.sweep(59) : 0;
            brought += k == 1 ? x.sweep(9) : 0;
            brought += k > 1 && k < 7 ? x.sweep(9 * k) : 0;
        }
        x.back();
        d.holds("a gust brought some", brought > 0 && last >= 0);
        due("each minute at the last yard", x.pan(9, 60), brought);
    }

    private static void panTakesAll() {
        d.says("takes all GRAINS of the YARD");
        BarleyLine x = Scene.mules(1);
        Scene.heap(x, 0, 7);
        due("once", x.pan(0, 2), 7);
        x.set(0, YARD, 0);
        x.set(0, GRAIN, 9);
        x.set(0, HOLE, 4);
        due("what falls before", x.pan(0, 1), 11);
        due("two minutes", x.pan(0, 2), 15);
        due("three minutes", x.pan(0, 3), 16);
        x.set(0, GRAIN, 0);
        x.rule(0, 7);
        x.seed(Lot.seed(new int[] {60, 100, 60}, new int[] {1, Lot.ANY, 0}));
        due("birds find none where the pan was", x.pan(0, 2), 7);
        due("birds would eat", x.behind(2, 1), 7);
    }

    private static void whose() {
        d.says("WHOSE by a SHEET, for n (0 .. 60): what 0 the MULE, 1 the differences, together. BAD; NOTHING; NONE: there are no"
                + " MULES.");
        BarleyLine x = new BarleyLine();
        for (int odd : new int[] {-1, 61, MIN, MAX}) {
            due("for " + odd, x.whose(0, odd, 0), BAD);
        }
        for (int odd : new int[] {-1, 4, MIN, MAX}) {
            due("sheet " + odd, x.whose(odd, 0, 0), BAD);
        }
        for (int odd : new int[] {-1, 2, MIN, MAX}) {
            due("what " + odd, x.whose(0, 0, odd), BAD);
        }
        for (int sheet = 0; sheet < 4; sheet++) {
            due("missing", x.whose(sheet, 0, 0), NOTHING);
            x.sheet(sheet, sheet % 2, 1);
            due("no mules", x.whose(sheet, 0, 0), NONE);
            due("no mules", x.whose(sheet, 60, 1), NONE);
        }
        x.mule(0, 0, 1000, 3);
        for (int sheet = 0; sheet < 4; sheet++) {
            due("for 0", x.whose(sheet, 0, 1), 0);
            due("for 1", x.whose(sheet, 1, 1), 3);
            due("for 60", x.whose(sheet, 60, 1), 180);
            due("the mule", x.whose(sheet, 60, 0), 0);
            due("for 61", x.whose(sheet, 61, 1), BAD);
            due("for -1", x.whose(sheet, -1, 1), BAD);
        }
    }

    private static void whoseOfSeveral() {
        d.says("differ least (signs left out), together; of several the least.");
        BarleyLine x = new BarleyLine();
        for (int i = 0; i < 8; i++) {
            x.mule(0, 0, 100, 5 + i);
        }
        x.sheet(0, 1, 2);
        x.mark(0, 0, 12);
        due("the last", x.whose(0, 1, 0), 7);
        due("just so", x.whose(0, 1, 1), 0);
        x.mark(0, 0, 13);
        due("too few", x.whose(0, 1, 0), 7);
        due("too few", x.whose(0, 1, 1), 1);
        x.mark(0, 0, 4);
        due("too many", x.whose(0, 1, 0), 0);
        due("too many", x.whose(0, 1, 1), 1);
        x.set(2, HOLE, 5);
        due("0 and 2", x.whose(0, 1, 0), 0);
        x.mark(0, 0, 9);
        x.set(4, HOLE, 10);
        x.set(3, HOLE, 8);
        due("one less and one more", x.whose(0, 1, 0), 3);
        x.mark(0, 1, -5);
        due("signs left out", x.whose(0, 1, 1), 6);
        x.mark(0, 0, -99999);
        x.mark(0, 1, 99999);
        due("the most", x.whose(0, 0, 1), 199998);
    }

    private static void whosePlaces() {
        d.says("GRAINS of YARDS k behind n MINUTES and places k that are numbers");
        BarleyLine x = Scene.mules(2);
        Scene.heap(x, 23, 6);
        Scene.heap(x, 24, 7);
        x.sheet(0, 1, 24);
        due("yard 23 counts, 24 not", x.whose(0, 0, 1), 6);
        x.mark(0, 23, 5);
        due("place 23", x.whose(0, 0, 1), 1);
        x.mark(0, 23, NONE);
        due("no number", x.whose(0, 0, 1), 0);
        x.sheet(1, 1, 23);
        due("one place less", x.whose(1, 0, 1), 0);
        x.sheet(2, 0, 0);
        due("no places: the mule", x.whose(2, 60, 0), 0);
        due("no places: differences", x.whose(2, 60, 1), 0);
        x.sheet(3, 0, 24);
        x.mark(3, 0, 32768);
        due("shorts", x.whose(3, 0, 1), 32768 + 6);
    }

    private static void whoseOthers() {
        d.says("the MULE with which, if HOLE of all others were 0 now");
        BarleyLine x = new BarleyLine();
        x.mule(0, 0, 100, 5);
        x.mule(5, 0, 100, 7);
        x.sheet(0, 1, 1);
        due("oats leak 1 without a hole", x.whose(0, 1, 1), 6);
        due("oats leak 1 without a hole", x.whose(0, 1, 0), 0);
        x.mark(0, 0, 8);
        due("oats alone", x.whose(0, 1, 0), 1);
        due("oats alone", x.whose(0, 1, 1), 0);
        x.rule(3, 9);
        due("holes grow from 0", x.whose(0, 6, 1), 5 * 5 + 14 + 5 + 10 - 8);
        Dues.text(x, "leak 3");
        due("a law without HOLE", x.whose(0, 1, 0), 0);
        due("a law without HOLE", x.whose(0, 1, 1), 1);
    }
}
