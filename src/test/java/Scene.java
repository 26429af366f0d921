/** What tests of the edges lay out on the way before they ask. */
final class Scene {
    private Scene() {
    }

    /** Lays n grains (50 at most) on a yard below 59 by mule 0, which must be of kind MULE; no birds, no gusts. */
    static void heap(BarleyLine x, int yard, int n) {
        calm(x);
        x.set(0, 1, 0);
        x.set(0, 2, yard);
        x.set(0, 3, n);
        x.set(0, 4, 50);
        x.minutes(1);
    }

    /** Lays n grains (25 at most) on yard 59, where none fall: a gust brings them from yard 58, which is swept then. */
    static void heapAtTheEnd(BarleyLine x, int n) {
        calm(x);
        x.set(0, 1, 0);
        x.set(0, 2, 58);
        x.set(0, 3, 2 * n);
        x.set(0, 4, 50);
        x.rule(1, 100);
        x.rule(2, 1);
        x.seed(Lot.minute(Lot.ANY, Lot.ANY, 58));
        x.minutes(1);
        x.sweep(58);
        calm(x);
    }

    static void calm(BarleyLine x) {
        for (int what = 0; what < 4; what++) {
            x.rule(what, 0);
        }
    }

    /** An object with so many mules of kind MULE that stand still and carry nothing. */
    static BarleyLine mules(int many) {
        BarleyLine x = new BarleyLine();
        for (int i = 0; i < many; i++) {
            x.mule(0, 0, 0, 0);
        }
        return x;
    }

    /** An object of no mules at a minute, by calls of 100 and one more. */
    static BarleyLine atMinute(int minute) {
        BarleyLine x = new BarleyLine();
        for (int i = 0; i < minute / 100; i++) {
            x.minutes(100);
        }
        if (minute % 100 > 0) {
            x.minutes(minute % 100);
        }
        return x;
    }
}
