import java.util.Arrays;

/**
 * That a call changes nothing is seen by twins: two objects are made in the same way, one is asked the call, and then both
 * tell all there is. One object can't tell it all within its 512 calls, so that each view of it has twins of its own.
 */
final class Twins {
    interface Way {
        void go(BarleyLine x);
    }

    interface Call {
        int ask(BarleyLine x);
    }

    private interface View {
        int[] of(BarleyLine x);
    }

    private static final View[] VIEWS = {Twins::now, Twins::things, Twins::rows, Twins::image};

    private Twins() {
    }

    /** The answer is as due, and the object is then as the one that was not asked. */
    static void nothingChanges(Dues d, String what, Way way, Call call, int want) {
        changes(d, what, way, call, want, x -> { });
    }

    /** The answer is as due, and the object is then as one that has gone otherwise. */
    static void changes(Dues d, String what, Way way, Call call, int want, Way otherwise) {
        for (int view = 0; view < VIEWS.length; view++) {
            BarleyLine asked = new BarleyLine();
            BarleyLine other = new BarleyLine();
            way.go(asked);
            way.go(other);
            d.due(what, call.ask(asked), want);
            otherwise.go(other);
            int[] is = VIEWS[view].of(asked);
            int[] was = VIEWS[view].of(other);
            int at = Arrays.mismatch(is, was);
            d.holds(what + " changes view " + view + " at " + at, at < 0);
        }
    }

    /** The world as it is; 240 calls. */
    private static int[] now(BarleyLine x) {
        int[] all = new int[240];
        int n = 0;
        for (int mule = 0; mule < 8; mule++) {
            for (int what = 0; what < 8; what++) {
                all[n++] = x.told(mule, what);
            }
            all[n++] = x.fine(mule);
        }
        for (int yard = 0; yard < 60; yard++) {
            all[n++] = x.yard(yard, 0);
            all[n++] = x.yard(yard, 1);
        }
        for (int what = 0; what < 6; what++) {
            all[n++] = x.way(what);
        }
        for (int what = 0; what < 10; what++) {
            all[n++] = x.count(what);
        }
        for (int text = 0; text < 14; text++) {
            all[n++] = x.textTold(text, 0) * 100 + x.textTold(text, 1);
        }
        for (int key = 0; key < 3; key++) {
            all[n++] = x.why(key);
        }
        all[n] = x.fee();
        return all;
    }

    /** Slots, then sheets by way of a slot. */
    private static int[] things(BarleyLine x) {
        int[] all = new int[260];
        int n = 0;
        for (int slot = 0; slot < 5; slot++) {
            for (int kind = 0; kind < 6; kind++) {
                all[n++] = x.ask(slot, kind);
            }
            n = places(x, slot, all, n);
            all[n++] = x.rest(slot, Integer.MAX_VALUE);
        }
        for (int sheet = 0; sheet < 4; sheet++) {
            x.lay(0, 0, 0);
            x.lay(0, 2, sheet);
            n = places(x, 0, all, n);
            all[n++] = x.copy(sheet, 0, sheet, 0, 24);
            all[n++] = x.mark(sheet, 0, BarleyLine.NONE);
        }
        return all;
    }

    private static int places(BarleyLine x, int slot, int[] all, int from) {
        int n = from;
        for (int place = 0; place < 24; place++) {
            all[n++] = x.item(slot, place);
        }
        return n;
    }

    /** The numbers that wait and the tape, by the acts that use them up. */
    private static int[] rows(BarleyLine x) {
        int waiting = x.count(7);
        int bytes = x.count(8);
        int check = x.check(Math.max(1, Math.min(30, waiting / 2)));
        int text = x.text();
        return new int[] {waiting, bytes, check, text, x.textTold(text, 0), x.textTold(text, 1), x.fee(), x.fine(0), x.told(0, 5)};
    }

    /** The image, by going back to it. */
    private static int[] image(BarleyLine x) {
        int many = x.back();
        int[] all = now(x);
        int[] with = Arrays.copyOf(all, all.length + 1);
        with[all.length] = many;
        return with;
    }

    /** Mules, texts, rules, heaps, an image that is not as now, sheets and slots of all sorts, a tape, numbers that wait. */
    static void busy(BarleyLine x) {
        x.mule(3, 4, 900, 12);
        x.mule(2, 5, 700, 9);
        x.mule(5, 0, 800, 3);
        Dues.text(x, "leak h+p");
        Dues.text(x, "fine y*100+g");
        x.rule(0, 7);
        x.rule(1, 60);
        x.rule(2, -2);
        x.rule(3, 2);
        x.minutes(4);
        x.rain();
        things0(x);
        x.keep();
        for (int i = 0; i < 6; i++) {
            x.tell(x.behind(i / 2 + 1, i % 2));
        }
        x.turns(0, 1);
        x.mule(0, 9, 9, 9);
        x.minutes(3);
        x.rain();
        Dues.text(x, "fee e*100+b");
        Dues.tape(x, "fee 7*e+b-3");
    }

    private static void things0(BarleyLine x) {
        x.sheet(0, 0, 5);
        x.sheet(1, 1, 6);
        x.sheet(2, 1, 0);
        for (int place = 0; place < 5; place++) {
            x.mark(0, place, 11 * place - 8);
            x.mark(1, place, place == 3 ? BarleyLine.NONE : 40000 - place);
        }
        x.lay(0, 1, 0);
        x.lay(1, 2, 0);
        x.lay(2, 3, -123456789);
        x.lay(4, 2, 1);
    }

    /** All that has a bound is full: 8 mules, 14 texts, 96 bytes, 60 numbers. */
    static void full(BarleyLine x) {
        x.deal(8);
        for (int i = 0; i < 14; i++) {
            x.feed(0x66656520, 0x312b3120, 0x20202020 + i % 2 * 0x0b11);
            x.text();
        }
        x.rule(0, 5);
        x.rule(1, 50);
        x.rule(2, 1);
        x.rule(3, 1);
        x.minutes(6);
        x.keep();
        for (int i = 0; i < 60; i++) {
            x.tell(x.behind(i / 2 + 1, i % 2));
        }
        for (int i = 0; i < 8; i++) {
            x.feed(i == 0 ? 0x66656520 : 0x2b312b31, i == 0 ? 0x20202031 : 0x2b312b31, 0x2b312b31);
        }
        x.minutes(5);
    }

    /** The last minute: none more can pass. */
    static void late(BarleyLine x) {
        x.mule(0, 1, 9999, 20);
        x.mule(4, 5, 5000, 30);
        x.rule(3, 1);
        for (int i = 0; i < 100; i++) {
            x.minutes(100);
        }
        x.set(0, 2, 0);
        x.set(1, 2, 10);
        x.set(1, 4, 30);
        x.rule(0, 30);
        x.rule(1, 70);
        x.rule(2, 3);
        x.sheet(0, 1, 4);
        x.mark(0, 1, 15);
        x.keep();
    }
}
