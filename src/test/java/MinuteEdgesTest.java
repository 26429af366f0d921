/** The edges of part 2 of the document, A MINUTE, and of promises 10, 11, 13 and 14: a method for each sentence that names one. */
public final class MinuteEdgesTest {
    private static final int BAD = -1000000001;
    private static final int MIN = Integer.MIN_VALUE, MAX = Integer.MAX_VALUE;
    private static final int KIND = 0, PACE = 1, YARD = 2, GRAIN = 3, HOLE = 4;
    private static final int BIRDS = 0, GUST = 1, WIND = 2, THREAD = 3;
    private static final Dues d = new Dues("MinuteEdgesTest");

    private static void due(String call, int got, int want) {
        d.due(call, got, want);
    }

    public static void main(String[] args) {
        notAtTheEnd();
        allIfLess();
        notBeyond();
        goesNowhere();
        falls();
        isOnThen();
        everyFifth();
        holesGrow();
        birdsYard();
        birdsEat();
        birdsDraw();
        gustMeasured();
        halfGoes();
        beyondTheEnds();
        oneMinuteMore();
        rain();
        draws();
        mulesDrawn();
        rainTold();
        deal();
        minutes();
        fallenInThem();
        way();
        d.end();
    }

    /** An object with one mule. */
    private static BarleyLine one(int kind, int pace, int yard, int grain, int hole) {
        BarleyLine x = new BarleyLine();
        x.mule(kind, pace, grain, hole);
        x.set(0, YARD, yard);
        return x;
    }

    private static void notAtTheEnd() {
        d.says("MULES by numbers, but those at YARD 59");
        BarleyLine x = one(0, 0, 59, 100, 10);
        due("fallen at 59", x.minutes(1), 0);
        due("grain at 59", x.told(0, GRAIN), 100);
        due("grains of 59", x.yard(59, 0), 0);
        BarleyLine y = one(0, 0, 58, 100, 10);
        due("fallen at 58", y.minutes(1), 10);
        due("grain at 58", y.told(0, GRAIN), 90);
        due("grains of 58", y.yard(58, 0), 10);
        BarleyLine last = Scene.mules(8);
        last.set(7, GRAIN, 5);
        last.set(7, HOLE, 3);
        due("mule 7 too", last.minutes(1), 3);
    }

    private static void allIfLess() {
        d.says("of GRAIN as much as LEAKS (all, if there is less) falls (FALLEN is more by it)");
        int[] grain = {0, 1, 9, 10, 11, 9999};
        int[] fallen = {0, 1, 9, 10, 10, 10};
        for (int i = 0; i < grain.length; i++) {
            BarleyLine x = one(0, 0, 5, grain[i], 10);
            due("minutes, grain " + grain[i], x.minutes(1), fallen[i]);
            due("left of " + grain[i], x.told(0, GRAIN), grain[i] - fallen[i]);
            due("fallen of " + grain[i], x.way(2), fallen[i]);
            due("lies of " + grain[i], x.yard(5, 0), fallen[i]);
        }
        BarleyLine tight = one(0, 3, 5, 9999, 0);
        due("no hole", tight.minutes(1), 0);
        due("all kept", tight.told(0, GRAIN), 9999);
        for (int more = -1; more <= 1; more++) {
            BarleyLine x = one(2, 0, 0, 1998 + more, 0);
            Dues.text(x, "leak 999");
            due("leaks 1998 of " + (1998 + more), x.minutes(1), Math.min(1998, 1998 + more));
        }
    }

    private static void notBeyond() {
        d.says("it is going on by g YARDS, what it GOES, but not beyond 59");
        int[] from = {48, 49, 50, 57, 58};
        int[] to = {58, 59, 59, 59, 59};
        for (int i = 0; i < from.length; i++) {
            BarleyLine x = one(3, 9, from[i], 100, 50);
            due("falls from " + from[i], x.minutes(1), 23);
            due("from " + from[i], x.told(0, YARD), to[i]);
            int g = to[i] - from[i];
            due("on its own", x.yard(from[i], 0), 23 / g + 23 % g);
            for (int yard = from[i] + 1; yard < to[i]; yard++) {
                due("on yard " + yard, x.yard(yard, 0), 23 / g);
            }
            due("not on yard " + to[i], x.yard(to[i], 0), 0);
        }
    }

    private static void goesNowhere() {
        d.says("if g is 0 all falls on its YARD");
        int[][] standing = {{0, 0}, {1, 0}, {2, 0}, {2, 1}, {4, 0}, {4, 1}, {4, 2}, {5, 0}};
        for (int[] kindAndPace : standing) {
            for (int yard : new int[] {0, 58}) {
                BarleyLine x = one(kindAndPace[0], kindAndPace[1], yard, 1000, 40);
                int fallen = x.minutes(2);
                String who = "kind " + kindAndPace[0] + ", pace " + kindAndPace[1] + ", yard " + yard;
                due(who, fallen, new int[] {80, 40, 160, 0, 150, 82}[kindAndPace[0]]);
                due(who + ": lies", x.yard(yard, 0), fallen);
                due(who + ": stands", x.told(0, YARD), yard);
            }
        }
    }

    private static void falls() {
        d.says("else on each of the g YARDS from its own on that many by g (cut), and what is still lacking on its own, too.");
        int[][] heaps = {{0, 0, 0, 0}, {1, 0, 0, 0}, {3, 0, 0, 0}, {1, 1, 1, 1}, {2, 1, 1, 1}, {4, 1, 1, 1}, {2, 2, 2, 2}};
        int[] falls = {0, 1, 3, 4, 5, 7, 8};
        for (int i = 0; i < falls.length; i++) {
            BarleyLine x = one(0, 4, 20, 100, falls[i]);
            x.minutes(1);
            for (int k = 0; k < 4; k++) {
                due(falls[i] + " by 4, yard " + k, x.yard(20 + k, 0), heaps[i][k]);
            }
            due("the yard it comes to", x.yard(24, 0), 0);
            due("the yard behind", x.yard(19, 0), 0);
        }
        BarleyLine x = one(0, 1, 20, 100, 7);
        x.minutes(1);
        due("g is 1", x.yard(20, 0), 7);
        due("g is 1", x.yard(21, 0), 0);
    }

    private static void isOnThen() {
        d.says("It is g YARDS on then.");
        BarleyLine x = one(0, 4, 0, 0, 0);
        x.minutes(1);
        due("without grain", x.told(0, YARD), 4);
        BarleyLine y = one(3, 0, 0, 9, 0);
        y.minutes(3);
        due("without a hole", y.told(0, YARD), 3);
        BarleyLine z = one(0, 1, 58, 9, 1);
        z.minutes(2);
        due("to the end", z.told(0, YARD), 59);
        due("falls once", z.told(0, GRAIN), 8);
    }

    private static void everyFifth() {
        d.says("(2) If THE MINUTE, the rest by 5, is 4");
        BarleyLine x = one(0, 0, 0, 9999, 1);
        x.rule(THREAD, 1);
        int[] holes = {1, 1, 1, 1, 2, 2, 2, 2, 2, 3, 3, 3, 3, 3, 4};
        int leaks = 1;
        for (int i = 0; i < holes.length; i++) {
            due("falls in minute " + i, x.minutes(1), leaks);
            due("hole behind minute " + i, x.told(0, HOLE), holes[i]);
            leaks = holes[i];
        }
        BarleyLine late = Scene.atMinute(9993);
        late.mule(0, 0, 0, 0);
        late.rule(THREAD, 1);
        late.minutes(1);
        due("9993", late.told(0, HOLE), 0);
        late.minutes(1);
        due("9994", late.told(0, HOLE), 1);
        late.minutes(4);
        due("9998", late.told(0, HOLE), 1);
        late.minutes(1);
        due("9999 is not passed", late.told(0, HOLE), 1);
    }

    private static void holesGrow() {
        d.says("HOLE of all is more by THREAD (50 at most).");
        int[] before = {0, 1, 40, 41, 42, 49, 50, 7};
        int[] then = {9, 10, 49, 50, 50, 50, 50, 16};
        BarleyLine x = new BarleyLine();
        for (int i = 0; i < 8; i++) {
            x.mule(i % 6, 1, i % 2, before[i]);
        }
        x.set(7, YARD, 59);
        x.rule(THREAD, 9);
        x.minutes(4);
        for (int i = 0; i < 8; i++) {
            due("not yet " + i, x.told(i, HOLE), before[i]);
        }
        x.minutes(1);
        for (int i = 0; i < 8; i++) {
            due("hole " + before[i], x.told(i, HOLE), then[i]);
        }
        x.rule(THREAD, 0);
        x.minutes(5);
        for (int i = 0; i < 8; i++) {
            due("by thread 0", x.told(i, HOLE), then[i]);
        }
    }

    private static void birdsYard() {
        d.says("(3) A draw: on the YARD that is its rest by 60 BIRDS eat");
        for (int yard : new int[] {0, 1, 58, 59}) {
            BarleyLine x = Scene.mules(1);
            Scene.heapAtTheEnd(x, 10);
            for (int at : new int[] {0, 1, 57, 58}) {
                Scene.heap(x, at, 10);
            }
            x.rule(BIRDS, 3);
            x.seed(Lot.minute(yard, Lot.ANY, Lot.ANY));
            x.minutes(1);
            for (int at : new int[] {0, 1, 57, 58, 59}) {
                due("birds at " + yard + ", grains of " + at, x.yard(at, 0), at == yard ? 7 : 10);
            }
            due("eaten at " + yard, x.way(3), 3);
        }
    }

    private static void birdsEat() {
        d.says("BIRDS eat as many GRAINS as BIRDS tells (all, if there are less; EATEN more by it).");
        int[] birds = {0, 1, 19, 20, 21, 99};
        int[] eaten = {0, 1, 19, 20, 20, 20};
        int seed = Lot.minute(30, Lot.ANY, Lot.ANY);
        for (int i = 0; i < birds.length; i++) {
            BarleyLine x = Scene.mules(1);
            Scene.heap(x, 30, 20);
            x.rule(BIRDS, birds[i]);
            x.seed(seed);
            x.minutes(1);
            due(birds[i] + " birds have eaten", x.way(3), eaten[i]);
            due(birds[i] + " birds have left", x.yard(30, 0), 20 - eaten[i]);
        }
        for (int heap = 98; heap <= 100; heap++) {
            BarleyLine x = Scene.mules(1);
            Scene.heap(x, 30, 50);
            Scene.heap(x, 30, heap - 50);
            x.rule(BIRDS, 99);
            x.seed(seed);
            x.minutes(1);
            due("99 birds have eaten of " + heap, x.way(3), Math.min(heap, 99));
            due("99 birds have left of " + heap, x.yard(30, 0), heap - Math.min(heap, 99));
            x.seed(seed);
            x.minutes(1);
            due("eaten all of " + heap, x.way(3), heap);
        }
        BarleyLine x = Scene.mules(1);
        x.rule(BIRDS, 99);
        x.minutes(1);
        due("nothing lies", x.way(3), 0);
        BarleyLine same = one(0, 0, 30, 20, 20);
        same.rule(BIRDS, 15);
        same.seed(seed);
        same.minutes(1);
        due("what fell in the same minute", same.way(3), 15);
    }

    private static void birdsDraw() {
        d.says("(4) A draw; if its rest by 100 is below GUST, one more draw");
        for (int birds : new int[] {0, 99}) {
            BarleyLine x = new BarleyLine();
            x.rule(BIRDS, birds);
            x.minutes(1);
            due("no gust: two draws", x.count(9), Lot.behind(1, 2));
            x.rule(GUST, 100);
            x.seed(1);
            x.minutes(1);
            due("a gust: three", x.count(9), Lot.behind(1, 3));
        }
    }

    private static void gustMeasured() {
        d.says("(4) A draw; if its rest by 100 is below GUST, one more draw");
        gust(0, 0, false);
        gust(0, 1, true);
        gust(1, 1, false);
        gust(49, 49, false);
        gust(49, 50, true);
        gust(99, 99, false);
        gust(99, 100, true);
    }

    private static void gust(int strength, int rule, boolean blows) {
        BarleyLine x = Scene.mules(1);
        Scene.heap(x, 30, 20);
        int seed = Lot.minute(Lot.ANY, strength, 30);
        x.rule(GUST, rule);
        x.rule(WIND, 2);
        x.seed(seed);
        x.minutes(1);
        String what = "rest " + strength + ", gust " + rule;
        due(what + ": stay", x.yard(30, 0), blows ? 10 : 20);
        due(what + ": go", x.yard(32, 0), blows ? 10 : 0);
        due(what + ": z", x.count(9), Lot.behind(seed, blows ? 3 : 2));
    }

    private static void halfGoes() {
        d.says("of the YARD that is its rest by 60 half of the GRAINS (cut) go WIND YARDS on");
        int seed = Lot.minute(Lot.ANY, Lot.ANY, 30);
        for (int wind = -3; wind <= 3; wind++) {
            for (int heap : new int[] {0, 1, 2, 3, 49, 50}) {
                BarleyLine x = Scene.mules(1);
                Scene.heap(x, 30, heap);
                x.rule(GUST, 100);
                x.rule(WIND, wind);
                x.seed(seed);
                x.minutes(1);
                String what = heap + " by wind " + wind;
                due(what + ": own", x.yard(30, 0), wind == 0 ? heap : heap - heap / 2);
                due(what + ": on", x.yard(30 + wind, 0), wind == 0 ? heap : heap / 2);
                due(what + ": of all", x.way(0), heap);
                due(what + ": none blown", x.way(4), 0);
            }
        }
    }

    private static void beyondTheEnds() {
        d.says("(beyond the ends: BLOWN is more by them)");
        blow(0, -1, true);
        blow(1, -1, false);
        blow(1, -2, true);
        blow(2, -2, false);
        blow(2, -3, true);
        blow(3, -3, false);
        blow(59, 1, true);
        blow(58, 1, false);
        blow(58, 2, true);
        blow(57, 2, false);
        blow(57, 3, true);
        blow(56, 3, false);
        blow(59, -3, false);
        blow(0, 3, false);
        blow(59, 0, false);
        BarleyLine x = Scene.mules(1);
        Scene.heap(x, 0, 15);
        x.rule(GUST, 100);
        x.rule(WIND, -3);
        int[] blown = {7, 11, 13, 14, 14};
        for (int i = 0; i < blown.length; i++) {
            x.seed(Lot.minute(Lot.ANY, Lot.ANY, 0));
            x.minutes(1);
            due("gust " + i + " from yard 0: blown in all", x.way(4), blown[i]);
        }
    }

    private static void blow(int yard, int wind, boolean beyond) {
        BarleyLine x = Scene.mules(1);
        if (yard == 59) {
            Scene.heapAtTheEnd(x, 15);
        } else {
            Scene.heap(x, yard, 15);
        }
        x.rule(GUST, 100);
        x.rule(WIND, wind);
        x.seed(Lot.minute(Lot.ANY, Lot.ANY, yard));
        x.minutes(1);
        String what = "from " + yard + " by wind " + wind;
        due(what + ": blown", x.way(4), beyond ? 7 : 0);
        due(what + ": stay", x.yard(yard, 0), wind == 0 ? 15 : 8);
        due(what + ": of all", x.way(0), beyond ? 8 : 15);
        if (!beyond && wind != 0) {
            due(what + ": lie there", x.yard(yard + wind, 0), 7);
        }
    }

    private static void oneMinuteMore() {
        d.says("THE MINUTE is 1 more.");
        BarleyLine x = new BarleyLine();
        for (int i = 1; i <= 6; i++) {
            x.minutes(1);
            due("behind " + i, x.count(1), i);
        }
        x.minutes(100);
        due("behind a hundred more", x.count(1), 106);
    }

    private static void rain() {
        d.says("RAIN: on each YARD a tenth of the GRAINS (cut) become GREEN.");
        int[] heaps = {0, 1, 9, 10, 11, 19, 20, 49, 50};
        int[] green = {0, 0, 0, 1, 1, 1, 2, 4, 5};
        BarleyLine x = Scene.mules(1);
        Scene.heapAtTheEnd(x, 20);
        for (int i = 0; i < heaps.length; i++) {
            Scene.heap(x, i * 7, heaps[i]);
        }
        due("how many", x.rain(), 14 + 2);
        for (int i = 0; i < heaps.length; i++) {
            due("green of " + heaps[i], x.yard(i * 7, 1), green[i]);
            due("grains of " + heaps[i], x.yard(i * 7, 0), heaps[i] - green[i]);
        }
        due("green of the last yard", x.yard(59, 1), 2);
        due("grains of the last yard", x.yard(59, 0), 18);
        due("green of all", x.way(1), 16);
        x.rain();
        due("green is added", x.yard(56, 1), 5 + 4);
        due("green of 9 left", x.yard(21, 1), 1);
    }

    private static void draws() {
        d.says("A draw: z becomes z * 1103515245 + 12345 (an int); it gives z >>> 8.");
        for (int seed : new int[] {1, 0, -1, MAX, MIN, 123456789, -987654321}) {
            BarleyLine x = new BarleyLine();
            x.seed(seed);
            x.deal(8);
            Lot lot = new Lot(seed);
            for (int i = 0; i < 8; i++) {
                due("kind by " + seed, x.told(i, KIND), lot.draw() % 6);
                due("pace by " + seed, x.told(i, PACE), 1 + lot.draw() % 9);
                due("grain by " + seed, x.told(i, GRAIN), lot.draw() % 1000);
                due("hole by " + seed, x.told(i, HOLE), lot.draw() % 30);
            }
            due("z by " + seed, x.count(9), lot.z());
        }
        BarleyLine known = new BarleyLine();
        known.minutes(1);
        due("two draws from 1", known.count(9), (1103515245 + 12345) * 1103515245 + 12345);
    }

    private static void mulesDrawn() {
        d.says("MULES that are drawn: KIND the rest of a draw by 6, PACE 1 and that of one more by 9, GRAIN that of one more by"
                + " 1000, HOLE that of one more by 30.");
        drawn(0, 0, Lot.ANY, 0);
        drawn(5, 8, Lot.ANY, 29);
        drawn(Lot.ANY, Lot.ANY, 0, Lot.ANY);
        drawn(Lot.ANY, Lot.ANY, 999, Lot.ANY);
    }

    private static void drawn(int kind, int pace, int grain, int hole) {
        BarleyLine x = new BarleyLine();
        x.seed(Lot.seed(new int[] {6, 9, 1000, 30}, new int[] {kind, pace, grain, hole}));
        due("one comes", x.deal(1), 1);
        int[] wanted = {kind, pace == Lot.ANY ? Lot.ANY : pace + 1, 0, grain, hole};
        for (int what = 0; what <= 4; what++) {
            if (wanted[what] != Lot.ANY) {
                due("what " + what, x.told(0, what), wanted[what]);
            }
        }
    }

    private static void rainTold() {
        d.says("RAIN: how many have become GREEN by it.");
        BarleyLine x = Scene.mules(1);
        due("nothing lies", x.rain(), 0);
        Scene.heap(x, 3, 9);
        Scene.heap(x, 4, 9);
        due("nine and nine", x.rain(), 0);
        Scene.heap(x, 3, 1);
        due("ten and nine", x.rain(), 1);
        due("nine and nine", x.rain(), 0);
        due("green", x.way(1), 1);
        due("the minute stays", x.count(1), 3);
    }

    private static void deal() {
        d.says("MULES are drawn, n (1 .. 8) of them, as many as there is room for (no draws for others): how many came. BAD.");
        for (int there = 0; there <= 8; there++) {
            for (int n : new int[] {1, 2, 7, 8}) {
                BarleyLine x = Scene.mules(there);
                int come = Math.min(n, 8 - there);
                due(n + " to " + there, x.deal(n), come);
                due("then", x.count(0), there + come);
                due("z", x.count(9), Lot.behind(1, 4 * come));
            }
            for (int n : new int[] {0, 9, -1, MIN, MAX}) {
                BarleyLine x = Scene.mules(there);
                due(n + " to " + there, x.deal(n), BAD);
                due("then", x.count(0), there);
                due("z", x.count(9), 1);
            }
        }
    }

    private static void minutes() {
        d.says("n (1 .. 100) MINUTES (no more than up to 9999): FALLEN in them. BAD.");
        for (int n : new int[] {0, 101, -1, MIN, MAX}) {
            BarleyLine x = one(0, 0, 0, 9999, 1);
            due("minutes(" + n + ")", x.minutes(n), BAD);
            due("none passed", x.count(1), 0);
        }
        for (int n : new int[] {1, 2, 99, 100}) {
            BarleyLine x = one(0, 0, 0, 9999, 1);
            due("minutes(" + n + ")", x.minutes(n), n);
            due("passed", x.count(1), n);
        }
        for (int left = 0; left <= 3; left++) {
            BarleyLine x = Scene.atMinute(9999 - left);
            x.mule(0, 0, 9999, 10);
            x.seed(77);
            due("two of " + left, x.minutes(2), 10 * Math.min(left, 2));
            due("the minute", x.count(1), Math.min(9999, 9999 - left + 2));
            due("z", x.count(9), Lot.behind(77, 2 * Math.min(left, 2)));
            due("101 of " + left, x.minutes(101), BAD);
            due("0 of " + left, x.minutes(0), BAD);
        }
        BarleyLine x = Scene.atMinute(9899);
        x.mule(0, 0, 9999, 10);
        due("just a hundred left", x.minutes(100), 1000);
        due("the last", x.count(1), 9999);
        due("none left", x.minutes(1), 0);
    }

    private static void fallenInThem() {
        d.says("FALLEN in them");
        BarleyLine x = one(0, 0, 0, 9999, 50);
        x.mule(0, 0, 70, 50);
        due("first", x.minutes(1), 100);
        due("second", x.minutes(1), 70);
        due("not what fell before", x.minutes(1), 50);
        due("fallen", x.way(2), 220);
        due("no mules", new BarleyLine().minutes(100), 0);
    }

    private static void way() {
        d.says("What was 0 GRAINS of all YARDS, together, 1 GREEN of all, together, 2 FALLEN, 3 EATEN, 4 BLOWN,"
                + " 5 GRAIN of all MULES, together, 6 TRAIL. BAD.");
        BarleyLine x = Scene.mules(8);
        for (int what = 0; what < 7; what++) {
            due("way(" + what + ") at first", x.way(what), 0);
        }
        for (int what : new int[] {-1, 7, MIN, MAX}) {
            due("way(" + what + ")", x.way(what), BAD);
        }
        Scene.heapAtTheEnd(x, 20);
        Scene.heap(x, 0, 30);
        due("first and last yard", x.way(0), 50);
        x.rain();
        due("grains", x.way(0), 45);
        due("green of first and last yard", x.way(1), 5);
        due("fallen", x.way(2), 70);
        x.set(0, GRAIN, 9999);
        x.set(7, GRAIN, 9999);
        due("grain of first and last mule", x.way(5), 19998);
        x.rule(BIRDS, 2);
        x.rule(GUST, 100);
        x.rule(WIND, 3);
        x.set(0, YARD, 59);
        x.seed(Lot.minute(0, Lot.ANY, 59));
        x.minutes(1);
        due("eaten", x.way(3), 2);
        due("blown", x.way(4), 9);
        due("trail", x.way(6), 1);
        BarleyLine full = new BarleyLine();
        for (int i = 0; i < 8; i++) {
            full.mule(0, 0, 9999, 0);
        }
        due("the most grain", full.way(5), 79992);
    }
}
