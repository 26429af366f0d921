/**
 * "A call that is refused answers one of BAD, NO, FULL, or a FINDING, of several the one that stands first with it, and
 * changes nothing (but the tape and the numbers that wait, where told)." For each promise: what it refuses, in states
 * with little, much and all there, and that all is then as without the call.
 */
public final class RefusedTest {
    private static final int BAD = -1000000001, NO = -1000000002, FULL = -1000000003, NONE = -1000000005,
            NOTHING = -1000000011, KIND = -1000000012, INDEX = -1000000013, SIZE = -1000000014;
    private static final int MIN = Integer.MIN_VALUE, MAX = Integer.MAX_VALUE;
    private static final Dues d = new Dues("RefusedTest");
    private static final Twins.Way BARE = x -> { };
    private static final Twins.Way BUSY = Twins::busy;
    private static final Twins.Way FILLED = Twins::full;
    private static final Twins.Way LATE = Twins::late;
    private static final Twins.Way[] ALL = {BARE, BUSY, FILLED, LATE};

    public static void main(String[] args) {
        d.says("A call that is refused answers one of BAD, NO, FULL, or a FINDING, of several the one that stands first with it,"
                + " and changes nothing");
        mules();
        muleNumbers();
        rulesAndYards();
        thoughts();
        texts();
        tape();
        sheets();
        copies();
        slots();
        rows();
        d.end();
    }

    private static void refused(String what, Twins.Way way, Twins.Call call, int want) {
        Twins.nothingChanges(d, what, way, call, want);
    }

    private static void refusedAlways(String what, Twins.Call call, int want) {
        for (int i = 0; i < ALL.length; i++) {
            refused(what + ", way " + i, ALL[i], call, want);
        }
    }

    /** What is just outside of bounds, and what is farthest. */
    private static int[] outside(int least, int most) {
        return new int[] {least - 1, most + 1, MIN, MAX};
    }

    private static void mules() {
        for (int v : outside(0, 5)) {
            refusedAlways("mule, kind " + v, x -> x.mule(v, 1, 1, 1), BAD);
        }
        for (int v : outside(0, 9)) {
            refusedAlways("mule, pace " + v, x -> x.mule(1, v, 1, 1), BAD);
        }
        for (int v : outside(0, 9999)) {
            refusedAlways("mule, grain " + v, x -> x.mule(1, 1, v, 1), BAD);
        }
        for (int v : outside(0, 50)) {
            refusedAlways("mule, hole " + v, x -> x.mule(1, 1, 1, v), BAD);
        }
        refused("mule", FILLED, x -> x.mule(0, 0, 0, 0), FULL);
        refused("mule", FILLED, x -> x.mule(5, 9, 9999, 50), FULL);
        for (int v : outside(1, 8)) {
            refusedAlways("deal " + v, x -> x.deal(v), BAD);
        }
        refused("deal without room", FILLED, x -> x.deal(8), 0);
        for (int v : outside(1, 100)) {
            refusedAlways("minutes " + v, x -> x.minutes(v), BAD);
        }
        refused("minutes at the last", LATE, x -> x.minutes(1), 0);
        refused("minutes at the last", LATE, x -> x.minutes(100), 0);
    }

    /** How many mules the ways have. */
    private static void muleNumbers() {
        int[] many = {0, 4, 8, 2};
        for (int i = 0; i < ALL.length; i++) {
            Twins.Way way = ALL[i];
            for (int mule : outside(0, many[i] - 1)) {
                refused("told of " + mule, way, x -> x.told(mule, 0), BAD);
                refused("as of " + mule, way, x -> x.as(mule, 0), BAD);
                refused("turns of " + mule, way, x -> x.turns(mule, 5), BAD);
                refused("set of " + mule, way, x -> x.set(mule, 3, 77), BAD);
                refused("fine of " + mule, way, x -> x.fine(mule), BAD);
                refused("lay of " + mule, way, x -> x.lay(0, 1, mule), BAD);
            }
        }
        for (int v : outside(0, 5)) {
            refused("as " + v, BUSY, x -> x.as(0, v), BAD);
            refused("turns to " + v, BUSY, x -> x.turns(0, v), BAD);
        }
        refused("as another kind", BUSY, x -> x.as(0, 3), KIND);
        refused("as another kind", BUSY, x -> x.as(1, 4), KIND);
        refused("told what", BUSY, x -> x.told(0, 8), BAD);
        refused("told what", BUSY, x -> x.told(0, -1), BAD);
        int[] most = {0, 9, 59, 9999, 50};
        for (int what = 1; what <= 4; what++) {
            int w = what;
            for (int v : outside(0, most[what])) {
                refused("set " + what + " to " + v, BUSY, x -> x.set(1, w, v), BAD);
            }
        }
        for (int what : new int[] {0, 5, -1, MIN, MAX}) {
            refused("set what " + what, BUSY, x -> x.set(1, what, 1), BAD);
        }
    }

    private static void rulesAndYards() {
        int[] least = {0, 0, -3, 0};
        int[] most = {99, 100, 3, 9};
        for (int what = 0; what < 4; what++) {
            int w = what;
            for (int v : outside(least[what], most[what])) {
                refusedAlways("rule " + what + " to " + v, x -> x.rule(w, v), BAD);
            }
        }
        for (int what : outside(0, 3)) {
            refusedAlways("rule what " + what, x -> x.rule(what, 1), BAD);
        }
        for (int yard : outside(0, 59)) {
            refusedAlways("sweep " + yard, x -> x.sweep(yard), BAD);
            refusedAlways("yard " + yard, x -> x.yard(yard, 0), BAD);
        }
        for (int what : outside(0, 1)) {
            refusedAlways("yard what " + what, x -> x.yard(0, what), BAD);
        }
        for (int what : outside(0, 6)) {
            refusedAlways("way " + what, x -> x.way(what), BAD);
        }
        for (int what : outside(0, 9)) {
            refusedAlways("count " + what, x -> x.count(what), BAD);
        }
    }

    private static void thoughts() {
        for (int n : outside(0, 100)) {
            refusedAlways("behind " + n, x -> x.behind(n, 0), BAD);
            refusedAlways("thickest " + n, x -> x.thickest(n, 0), BAD);
        }
        for (int n : outside(1, 60)) {
            refusedAlways("patch " + n, x -> x.patch(n, 0), BAD);
            refusedAlways("pan for " + n, x -> x.pan(1, n), BAD);
        }
        for (int n : outside(0, 60)) {
            refusedAlways("whose " + n, x -> x.whose(0, n, 0), BAD);
        }
        for (int pace : outside(0, 9)) {
            refusedAlways("pan of " + pace, x -> x.pan(pace, 1), BAD);
        }
        for (int what : outside(0, 1)) {
            refusedAlways("thickest what " + what, x -> x.thickest(1, what), BAD);
            refusedAlways("patch what " + what, x -> x.patch(1, what), BAD);
            refusedAlways("whose what " + what, x -> x.whose(0, 1, what), BAD);
        }
        for (int sheet : outside(0, 3)) {
            refusedAlways("whose sheet " + sheet, x -> x.whose(sheet, 1, 0), BAD);
        }
        refusedAlways("behind what", x -> x.behind(1, -1), BAD);
        refusedAlways("behind what", x -> x.behind(1, 11), BAD);
        refused("behind of no mule", BUSY, x -> x.behind(1, 7), BAD);
        refused("patch of no mules", BARE, x -> x.patch(1, 0), NONE);
        refused("whose of a missing sheet", BARE, x -> x.whose(0, 1, 0), NOTHING);
        refused("whose of a missing sheet", BUSY, x -> x.whose(3, 1, 0), NOTHING);
        refused("whose of no mules", x -> x.sheet(0, 0, 1), x -> x.whose(0, 1, 0), NONE);
    }

    private static void texts() {
        for (int key : outside(0, 2)) {
            refusedAlways("why " + key, x -> x.why(key), BAD);
        }
        refused("why", BARE, x -> x.why(0), NONE);
        for (int text : outside(0, 13)) {
            refusedAlways("text " + text, x -> x.textTold(text, 0), BAD);
        }
        refused("text 3 of 3", BUSY, x -> x.textTold(3, 0), BAD);
        for (int what : outside(0, 1)) {
            refused("text told what " + what, BUSY, x -> x.textTold(0, what), BAD);
        }
        faultUsesTapeUp(BUSY, "fee 9+", -106);
        faultUsesTapeUp(BUSY, "leek 1", -100);
        faultUsesTapeUp(FILLED, "leak h+)", -107);
        faultUsesTapeUp(FILLED, "leak h", FULL);
        faultUsesTapeUp(FILLED, "fee 12345", -104);
    }

    /** A text that is refused uses the tape up and changes nothing else. */
    private static void faultUsesTapeUp(Twins.Way way, String bytes, int want) {
        Twins.Way withTape = x -> {
            way.go(x);
            Dues.tape(x, bytes);
        };
        Twins.changes(d, "text " + bytes, withTape, BarleyLine::text, want, x -> x.trim(0));
    }

    private static void tape() {
        Twins.Way laden = x -> Dues.tape(x, "fee " + "1+".repeat(45) + "11");
        refused("feed beyond 96", laden, x -> x.feed(0x20202020, 0x20202020, 0x20202020), FULL);
        Twins.Way almost = x -> {
            laden.go(x);
            x.trim(85);
        };
        refused("feed beyond 96", almost, x -> x.feed(0x20202020, 0x20202020, 0x20202020), FULL);
        refused("feed beyond 96", FILLED, x -> x.feed(0x20202020, 0x20202020, 0x20202020), FULL);
        for (int n : outside(0, 85)) {
            refused("trim " + n, almost, x -> x.trim(n), BAD);
        }
        refused("trim 96 of 85", almost, x -> x.trim(96), BAD);
        for (int n : outside(0, 11)) {
            refused("trim " + n, BUSY, x -> x.trim(n), BAD);
        }
        refused("trim of none", BARE, x -> x.trim(1), BAD);
    }

    private static void sheets() {
        for (int sheet : outside(0, 3)) {
            refusedAlways("sheet " + sheet, x -> x.sheet(sheet, 0, 1), BAD);
            refusedAlways("sheet " + sheet + " missing", x -> x.sheet(sheet, -1, 0), BAD);
            refusedAlways("mark sheet " + sheet, x -> x.mark(sheet, 0, 1), BAD);
            refusedAlways("pour " + sheet, x -> x.pour(sheet), BAD);
            refusedAlways("reads " + sheet, x -> x.reads(sheet), BAD);
        }
        for (int sort : outside(-1, 1)) {
            refused("sort " + sort, BUSY, x -> x.sheet(0, sort, 1), BAD);
            refused("sort " + sort + " ahead of size", BUSY, x -> x.sheet(0, sort, -1), BAD);
        }
        for (int sheet = 0; sheet < 4; sheet++) {
            int s = sheet;
            for (int sort = 0; sort < 2; sort++) {
                int t = sort;
                refused("25 places", BUSY, x -> x.sheet(s, t, 25), BAD);
                refused("-1 places", BUSY, x -> x.sheet(s, t, -1), SIZE);
                refused("MIN places", BUSY, x -> x.sheet(s, t, MIN), SIZE);
                refused("MAX places", BUSY, x -> x.sheet(s, t, MAX), BAD);
            }
        }
        refused("mark missing", BUSY, x -> x.mark(3, 0, 1), NOTHING);
        refused("mark index", BUSY, x -> x.mark(0, 5, 1), INDEX);
        refused("mark index", BUSY, x -> x.mark(0, -1, 1), INDEX);
        refused("mark index", BUSY, x -> x.mark(1, 6, 1), INDEX);
        refused("mark index", BUSY, x -> x.mark(2, 0, 1), INDEX);
        refused("mark none", BUSY, x -> x.mark(0, 1, NONE), KIND);
        for (int v : outside(-99999, 99999)) {
            refused("mark " + v, BUSY, x -> x.mark(1, 1, v), BAD);
            refused("mark " + v + ", index first", BUSY, x -> x.mark(1, 6, v), INDEX);
        }
        refused("pour missing", BUSY, x -> x.pour(3), NOTHING);
        refused("reads missing", BUSY, x -> x.reads(3), NOTHING);
        refused("pour of no places", BUSY, x -> x.pour(2), 0);
        refused("reads of no places", BUSY, x -> x.reads(2), NONE);
    }

    private static void copies() {
        for (int sheet : outside(0, 3)) {
            refused("copy from " + sheet, BUSY, x -> x.copy(sheet, 0, 3, 0, 1), BAD);
            refused("copy to " + sheet, BUSY, x -> x.copy(3, 0, sheet, 0, 1), BAD);
        }
        refused("copy from a missing one", BUSY, x -> x.copy(3, 0, 1, 0, 1), NOTHING);
        refused("copy to a missing one", BUSY, x -> x.copy(1, 0, 3, 0, 1), NOTHING);
        refused("copy of sorts", BUSY, x -> x.copy(0, 0, 1, 0, 1), KIND);
        refused("copy of sorts", BUSY, x -> x.copy(1, 0, 0, 0, 1), KIND);
        refused("copy of sorts, ahead of index", BUSY, x -> x.copy(0, 9, 1, 9, 9), KIND);
        for (int v : new int[] {-1, 5, MIN, MAX}) {
            refused("copy from place " + v, BUSY, x -> x.copy(0, v, 0, 0, 1), INDEX);
            refused("copy to place " + v, BUSY, x -> x.copy(0, 0, 0, v, 1), INDEX);
        }
        refused("copy too many", BUSY, x -> x.copy(0, 0, 0, 1, 5), INDEX);
        refused("copy too many", BUSY, x -> x.copy(0, 1, 0, 0, 5), INDEX);
        refused("copy too many", BUSY, x -> x.copy(1, 0, 2, 0, 1), INDEX);
        refused("copy too many", BUSY, x -> x.copy(0, 1, 0, 0, MAX), INDEX);
        refused("copy below 0", BUSY, x -> x.copy(0, 1, 0, 0, -1), INDEX);
        refused("copy below 0", BUSY, x -> x.copy(0, 1, 0, 0, MIN), INDEX);
        refused("copy of none", BUSY, x -> x.copy(0, 5, 0, 5, 0), 0);
        refused("copy onto itself", BUSY, x -> x.copy(1, 0, 1, 0, 6), 6);
    }

    private static void slots() {
        for (int slot : outside(0, 4)) {
            for (int thing = 0; thing <= 3; thing++) {
                int t = thing;
                refused("lay " + thing + " into " + slot, BUSY, x -> x.lay(slot, t, 0), BAD);
            }
            refused("ask " + slot, BUSY, x -> x.ask(slot, 0), BAD);
            refused("item " + slot, BUSY, x -> x.item(slot, 0), BAD);
            refused("rest " + slot, BUSY, x -> x.rest(slot, 0), BAD);
        }
        for (int slot = 0; slot < 5; slot++) {
            int s = slot;
            for (int thing : outside(0, 3)) {
                refused("thing " + thing, BUSY, x -> x.lay(s, thing, 0), BAD);
            }
            for (int k : outside(0, 3)) {
                refused("lay mule " + k, BUSY, x -> x.lay(s, 1, k), BAD);
                refused("lay sheet " + k, BUSY, x -> x.lay(s, 2, k), BAD);
            }
            refused("lay a missing sheet", BUSY, x -> x.lay(s, 2, 3), NOTHING);
            refused("ask a kind", BUSY, x -> x.ask(s, 6), BAD);
            refused("ask a kind", BUSY, x -> x.ask(s, -1), BAD);
        }
        int[] asked = {KIND, KIND, KIND, NOTHING, KIND};
        int[] items = {KIND, INDEX, KIND, NOTHING, INDEX};
        int[] rests = {KIND, KIND, NO, NOTHING, KIND};
        for (int slot = 0; slot < 5; slot++) {
            int s = slot;
            refused("ask " + slot, BUSY, x -> x.ask(s, 5), asked[slot]);
            refused("item " + slot, BUSY, x -> x.item(s, 6), items[slot]);
            refused("rest " + slot, BUSY, x -> x.rest(s, 0), rests[slot]);
        }
        refused("no number", BUSY, x -> x.item(4, 3), KIND);
    }

    private static void rows() {
        refused("tell", FILLED, x -> x.tell(0), FULL);
        refused("back", BARE, BarleyLine::back, NO);
        Twins.Way noImage = x -> {
            x.mule(0, 1, 9, 1);
            x.minutes(2);
            x.tell(3);
        };
        refused("back", noImage, BarleyLine::back, NO);
        for (int n : outside(1, 30)) {
            checkUsesNumbersUp(BUSY, n, BAD);
            checkUsesNumbersUp(FILLED, n, BAD);
            checkUsesNumbersUp(LATE, n, BAD);
            checkUsesNumbersUp(noImage, n, BAD);
        }
        checkUsesNumbersUp(noImage, 1, NO);
        checkUsesNumbersUp(noImage, 30, NO);
        checkUsesNumbersUp(BUSY, 3, 0);
        checkUsesNumbersUp(BUSY, 2, 5);
        checkUsesNumbersUp(BUSY, 30, 7);
        checkUsesNumbersUp(FILLED, 30, 0);
        checkUsesNumbersUp(LATE, 30, 0);
    }

    /** A check, whatever it answers, leaves no numbers waiting and changes nothing else: so does another one. */
    private static void checkUsesNumbersUp(Twins.Way way, int n, int want) {
        int other = n < 1 ? n + 1 : n - 1;
        Twins.changes(d, "check " + n, way, x -> x.check(n), want, x -> x.check(other));
        BarleyLine x = new BarleyLine();
        way.go(x);
        d.due("check " + n, x.check(n), want);
        d.due("none wait behind check " + n, x.count(7), 0);
    }
}
