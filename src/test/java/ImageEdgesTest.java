/** The edges of IMAGES and of rows that are checked (part 5 of the document), and of promises 37 to 41. */
public final class ImageEdgesTest {
    private static final int BAD = -1000000001, NO = -1000000002, FULL = -1000000003, NONE = -1000000005,
            NOTHING = -1000000011, KIND = -1000000012;
    private static final int MIN = Integer.MIN_VALUE, MAX = Integer.MAX_VALUE;
    private static final Dues d = new Dues("ImageEdgesTest");

    private static void due(String call, int got, int want) {
        d.due(call, got, want);
    }

    public static void main(String[] args) {
        keepsAllBut();
        againAndAgain();
        textsOfAnImage();
        minutesTold();
        tell();
        check();
        checkFewer();
        checkNoneWait();
        checkFirst();
        checkRefused();
        keep();
        back();
        count();
        d.end();
    }

    private static void keepsAllBut() {
        d.says("AN IMAGE keeps all but SHEETS, SLOTS, numbers that wait, THE TAPE");
        BarleyLine x = new BarleyLine();
        x.sheet(0, 1, 2);
        x.sheet(1, 0, 2);
        x.lay(0, 3, 5);
        x.lay(1, 3, 6);
        x.tell(1);
        x.tell(2);
        Dues.tape(x, "fee 1");
        x.keep();
        x.sheet(0, -1, 0);
        x.mark(1, 0, 8);
        x.sheet(2, 1, 1);
        x.lay(0, 0, 0);
        x.lay(2, 3, 9);
        x.tell(3);
        Dues.tape(x, "fee 12+");
        x.back();
        due("a sheet that went", x.reads(0), NOTHING);
        due("a sheet that was marked", x.reads(1), 0);
        due("a sheet that came", x.reads(2), NONE);
        due("a slot that was emptied", x.rest(0, 10), NOTHING);
        due("a slot that stayed", x.rest(1, 10), 6);
        due("a slot that was filled", x.rest(2, 10), 9);
        due("numbers that wait", x.count(7), 3);
        due("the tape", x.count(8), 7);
        due("the tape", x.text(), -107);
        x.check(1);
        x.back();
        due("numbers that are gone", x.count(7), 0);
        due("the tape that is used up", x.count(8), 0);
    }

    private static void againAndAgain() {
        d.says("all can become as it is (again and again)");
        BarleyLine x = Scene.mules(2);
        Scene.heap(x, 4, 20);
        x.rain();
        x.rule(0, 1);
        x.rule(1, 2);
        x.rule(2, -3);
        x.rule(3, 4);
        x.seed(MIN);
        due("keep", x.keep(), 2);
        for (int again = 0; again < 3; again++) {
            x.mule(1, 1, 1, 1);
            x.turns(0, 2 + again);
            x.set(0, 1, 9);
            x.set(0, 2, 50);
            x.set(0, 3, 999);
            x.set(0, 4, 9);
            x.rule(0, 99);
            x.rule(1, 100);
            x.rule(2, 3);
            x.rule(3, 9);
            x.sweep(4);
            x.minutes(20);
            x.rain();
            Dues.text(x, "leak 5");
            due("back", x.back(), 2);
            asKept(x);
        }
    }

    private static void asKept(BarleyLine x) {
        int[] counts = {2, 1, 1, 2, -3, 4, 0, 0, 0, MIN};
        for (int what = 0; what < 10; what++) {
            due("count(" + what + ")", x.count(what), counts[what]);
        }
        int[] ways = {18, 2, 20, 0, 0, 0, 1};
        for (int what = 0; what < 7; what++) {
            due("way(" + what + ")", x.way(what), ways[what]);
        }
        int[] mule = {0, 0, 4, 0, 50, 50, 0, 0};
        for (int what = 0; what < 8; what++) {
            due("told(0, " + what + ")", x.told(0, what), mule[what]);
        }
        due("mule 2", x.told(2, 0), BAD);
        due("grains", x.yard(4, 0), 18);
        due("green", x.yard(4, 1), 2);
        due("texts", x.why(0), NONE);
    }

    private static void textsOfAnImage() {
        d.says("AN IMAGE keeps all but SHEETS, SLOTS, numbers that wait, THE TAPE; all can become as it is");
        BarleyLine x = new BarleyLine();
        for (int i = 0; i < 13; i++) {
            Dues.text(x, "fee " + (100 + i));
        }
        x.keep();
        due("the fourteenth", Dues.text(x, "fee 7"), 13);
        due("full", Dues.text(x, "fee 8"), FULL);
        due("gives", x.fee(), 7);
        x.back();
        due("thirteen", x.count(6), 13);
        due("gives", x.fee(), 112);
        due("the fourteenth is gone", x.textTold(13, 0), BAD);
        due("another fourteenth", Dues.text(x, "leak 1+2"), 13);
        due("its key", x.textTold(13, 0), 0);
        due("its leaves", x.textTold(13, 1), 2);
        due("fee is the thirteenth", x.why(1), 12);
        due("full", Dues.text(x, "fee 8"), FULL);
        x.keep();
        x.back();
        due("fourteen", x.count(6), 14);
        due("leak", x.why(0), 13);
        BarleyLine y = new BarleyLine();
        y.mule(0, 0, 100, 9);
        Dues.text(y, "leak 5");
        y.keep();
        Dues.text(y, "leak 7");
        y.tell(5);
        y.tell(0);
        due("the image's own law", y.check(1), 0);
        due("the law of now", y.minutes(1), 7);
        y.back();
        Dues.text(y, "leak 8");
        y.tell(5);
        y.tell(0);
        due("the image's own law", y.check(1), 0);
    }

    private static void minutesTold() {
        d.says("THE MINUTES TOLD: of n MINUTES, one behind the other, by THE IMAGE: GRAINS of all YARDS, together; EATEN, behind"
                + " each.");
        BarleyLine x = Scene.mules(1);
        Scene.heap(x, 0, 30);
        x.set(0, 3, 50);
        x.set(0, 4, 2);
        x.rule(0, 5);
        int seed = Lot.minute(0, Lot.ANY, Lot.ANY);
        x.seed(seed);
        x.keep();
        x.rule(0, 0);
        x.seed(0);
        x.minutes(7);
        due("one", rows(x, 1, 27, 5), 0);
        Lot lot = new Lot(seed);
        lot.draw();
        lot.draw();
        boolean again = lot.draw() % 60 == 0;
        due("two", rows(x, 2, 27, 5, again ? 24 : 29, again ? 10 : 5), 0);
        due("eaten first", rows(x, 1, 5, 27), 1);
        due("eaten in all, not in the minute", rows(x, 2, 27, 5, again ? 24 : 29, again ? 5 : 0), 4);
        due("nothing changes", x.count(1), 8);
    }

    private static int rows(BarleyLine x, int n, int... numbers) {
        for (int v : numbers) {
            x.tell(v);
        }
        return x.check(n);
    }

    private static void tell() {
        d.says("One more number waits: how many. FULL: 60 wait.");
        BarleyLine x = new BarleyLine();
        due("none", x.count(7), 0);
        for (int i = 1; i <= 60; i++) {
            due("tell", x.tell(i % 2 == 0 ? MIN : MAX), i);
            due("wait", x.count(7), i);
        }
        due("the 61st", x.tell(0), FULL);
        due("60 wait", x.count(7), 60);
        due("once more", x.tell(0), FULL);
        x.check(1);
        due("none wait", x.count(7), 0);
        due("the first again", x.tell(0), 1);
    }

    /** An image with no mules and nothing on the way: each of its minutes is told as 0, 0. */
    private static BarleyLine still(int minute, int zeros) {
        BarleyLine x = Scene.atMinute(minute);
        x.keep();
        for (int i = 0; i < zeros; i++) {
            x.tell(0);
        }
        return x;
    }

    private static void check() {
        d.says("are THE MINUTES TOLD of n (1 .. 30");
        for (int n : new int[] {0, 31, -1, MIN, MAX}) {
            due("check(" + n + ")", still(0, 2).check(n), BAD);
            due("check(" + n + "), none wait", still(0, 0).check(n), BAD);
        }
        for (int n : new int[] {1, 2, 29, 30}) {
            due("just so, " + n, still(0, 2 * n).check(n), 0);
            due("one missing, " + n, still(0, 2 * n - 1).check(n), 2 * n);
            due("two missing, " + n, still(0, 2 * n - 2).check(n), 2 * n - 1);
            due("none, " + n, still(0, 0).check(n), 1);
            if (n < 30) {
                due("one too many, " + n, still(0, 2 * n + 1).check(n), 2 * n + 1);
                due("60, " + n, still(0, 60).check(n), 2 * n + 1);
            }
        }
        BarleyLine x = still(0, 60);
        due("the 61st is refused", x.tell(1), FULL);
        due("60 of 30", x.check(30), 0);
    }

    private static void checkFewer() {
        d.says("fewer, if THE MINUTE would be above 9999");
        for (int left = 0; left <= 3; left++) {
            for (int n : new int[] {1, 2, 3, 30}) {
                int due = 2 * Math.min(left, n);
                due(n + " of " + left, still(9999 - left, due).check(n), 0);
                due(n + " of " + left + ", one too many", still(9999 - left, due + 1).check(n), due + 1);
                if (due > 0) {
                    due(n + " of " + left + ", one missing", still(9999 - left, due - 1).check(n), due);
                }
            }
        }
        due("30 of 30", still(9969, 60).check(30), 0);
        due("30 of 29", still(9970, 60).check(30), 59);
        due("31 of 0", still(9999, 0).check(31), BAD);
        BarleyLine x = still(9997, 0);
        x.minutes(2);
        due("now is at the last minute", x.count(1), 9999);
        due("the image is not", rows(x, 30, 0, 0, 0, 0), 0);
        BarleyLine y = still(9999, 0);
        due("no minutes left, one told", rows(y, 1, 0), 1);
    }

    private static void checkNoneWait() {
        d.says("The numbers that wait (none do then, whatever is answered)");
        BarleyLine x = new BarleyLine();
        x.tell(1);
        due("bad", x.check(0), BAD);
        due("none wait", x.count(7), 0);
        x.tell(1);
        due("bad", x.check(31), BAD);
        due("none wait", x.count(7), 0);
        x.tell(1);
        due("no image", x.check(1), NO);
        due("none wait", x.count(7), 0);
        x.keep();
        due("right", rows(x, 1, 0, 0), 0);
        due("none wait", x.count(7), 0);
        due("wrong", rows(x, 1, 7, 0), 1);
        due("none wait", x.count(7), 0);
        due("one too many", rows(x, 1, 0, 0, 0), 3);
        due("none wait", x.count(7), 0);
        due("one missing", rows(x, 1, 0), 2);
        due("none wait", x.count(7), 0);
        due("what waited before does not count", rows(x, 1, 0, 0), 0);
    }

    private static void checkFirst() {
        d.says("else 1 and how many stand right ahead of the first that is not (or is missing, or one too many)");
        for (int wrong = 0; wrong < 60; wrong++) {
            BarleyLine x = still(0, wrong);
            x.tell(1);
            for (int i = wrong + 1; i < 60; i++) {
                x.tell(i % 2);
            }
            due("the first wrong is " + wrong, x.check(30), wrong + 1);
        }
        BarleyLine x = still(0, 0);
        due("a wrong one ahead of too many", rows(x, 1, 0, 5, 0), 2);
        due("a wrong one ahead of a missing one", rows(x, 2, 0, 5, 0), 2);
        due("too many, whatever it is", rows(x, 1, 0, 0, MIN), 3);
        due("one less than right", rows(x, 1, -1, 0), 1);
    }

    private static void checkRefused() {
        d.says("BAD; NO: there is no IMAGE.");
        BarleyLine x = new BarleyLine();
        due("no image", x.check(1), NO);
        due("no image", x.check(30), NO);
        due("bad ahead of no", x.check(0), BAD);
        due("bad ahead of no", x.check(31), BAD);
        due("back", x.back(), NO);
        due("still none", x.check(1), NO);
        x.keep();
        due("an image", x.check(1), 1);
        due("bad", x.check(31), BAD);
    }

    private static void keep() {
        d.says("AN IMAGE is kept: how many MULES.");
        BarleyLine x = new BarleyLine();
        due("none", x.keep(), 0);
        due("none", x.back(), 0);
        for (int i = 1; i <= 8; i++) {
            x.mule(0, 0, i, 0);
            due("keep", x.keep(), i);
            due("once more", x.keep(), i);
            due("the later image", x.back(), i);
        }
        due("the last mule", x.told(7, 3), 8);
    }

    private static void back() {
        d.says("All is as THE IMAGE: how many MULES. NO: there is none.");
        BarleyLine x = new BarleyLine();
        x.mule(0, 1, 5, 1);
        due("none", x.back(), NO);
        due("stays", x.told(0, 3), 5);
        x.keep();
        x.set(0, 3, 9);
        due("one", x.back(), 1);
        due("as kept", x.told(0, 3), 5);
        due("once more", x.back(), 1);
        x.deal(8);
        due("eight", x.count(0), 8);
        due("one again", x.back(), 1);
        due("one", x.count(0), 1);
        due("the second is gone", x.told(1, 0), BAD);
        BarleyLine empty = new BarleyLine();
        empty.keep();
        empty.deal(8);
        due("no mules", empty.back(), 0);
        due("none", empty.told(0, 0), BAD);
        due("z is as kept", empty.count(9), 1);
        BarleyLine late = Scene.atMinute(9999);
        late.seed(5);
        due("kept at the last minute", late.keep(), 0);
        late.mule(0, 0, 9, 9);
        late.back();
        due("the last minute", late.count(1), 9999);
        due("no more", late.minutes(1), 0);
        BarleyLine early = new BarleyLine();
        early.mule(0, 0, 9999, 1);
        early.keep();
        for (int i = 0; i < 100; i++) {
            early.minutes(100);
        }
        early.back();
        due("minutes again", early.minutes(100), 100);
        early.lay(0, 1, 0);
        early.turns(0, 1);
        early.back();
        due("a slot keeps its mule", early.ask(0, 1), KIND);
    }

    private static void count() {
        d.says("0 how many MULES, 1 THE MINUTE, 2 .. 5 BIRDS, GUST, WIND, THREAD, 6 TEXTS, 7 numbers that wait, 8 bytes of THE TAPE,"
                + " 9 z. BAD.");
        BarleyLine x = new BarleyLine();
        for (int odd : new int[] {-1, 10, MIN, MAX}) {
            due("count(" + odd + ")", x.count(odd), BAD);
        }
        int[] first = {0, 0, 0, 0, 0, 0, 0, 0, 0, 1};
        for (int what = 0; what < 10; what++) {
            due("at first, " + what, x.count(what), first[what]);
        }
        x.deal(8);
        x.rule(0, 99);
        x.rule(1, 100);
        x.rule(2, 3);
        x.rule(3, 9);
        for (int i = 0; i < 14; i++) {
            Dues.text(x, "fee 1");
        }
        for (int i = 0; i < 60; i++) {
            x.tell(i);
        }
        for (int i = 0; i < 8; i++) {
            x.feed(0, 0, 0);
        }
        for (int i = 0; i < 100; i++) {
            x.minutes(100);
        }
        x.seed(MAX);
        int[] most = {8, 9999, 99, 100, 3, 9, 14, 60, 96, MAX};
        for (int what = 0; what < 10; what++) {
            due("full, " + what, x.count(what), most[what]);
        }
        x.rule(2, -3);
        due("wind below 0", x.count(4), -3);
        x.seed(MIN);
        due("z below 0", x.count(9), MIN);
    }
}
