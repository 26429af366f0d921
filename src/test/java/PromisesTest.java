/** Each promise of the document: ordinary calls, its edges, and what it refuses, with answers worked out by hand. */
public final class PromisesTest {
    private static final int BAD = -1000000001, NO = -1000000002, FULL = -1000000003, NONE = -1000000005,
            NOTHING = -1000000011, KIND = -1000000012, INDEX = -1000000013, SIZE = -1000000014;
    private static final int MIN = Integer.MIN_VALUE, MAX = Integer.MAX_VALUE;
    private static final Dues d = new Dues("PromisesTest");

    private static void due(String call, int got, int want) {
        d.due(call, got, want);
    }

    public static void main(String[] args) {
        p1New();
        p2Mule();
        p3Told();
        p4As();
        p5Turns();
        p6Set();
        p7Rule();
        p8Yard();
        p9Sweep();
        p10Rain();
        p11Deal();
        p12Seed();
        p13Minutes();
        p13Birds();
        p13Gusts();
        p13Thread();
        p14Way();
        p15Behind();
        p16Empty();
        p17Thickest();
        p18Patch();
        p19Pan();
        p20Whose();
        p21Fee();
        p22Fine();
        p23Feed();
        p24Trim();
        p25Text();
        p26TextTold();
        p27Why();
        p28Sheet();
        p29Mark();
        p30Pour();
        p31Reads();
        p32Copy();
        p33Lay();
        p34Ask();
        p35Item();
        p36Rest();
        p37Tell();
        p38Check();
        p39Keep();
        p40Back();
        p41Count();
        d.end();
    }

    private static void p1New() {
        BarleyLine x = new BarleyLine();
        for (int what = 0; what <= 8; what++) {
            due("1 count(" + what + ")", x.count(what), 0);
        }
        due("1 count(9)", x.count(9), 1);
        for (int what = 0; what <= 6; what++) {
            due("1 way(" + what + ")", x.way(what), 0);
        }
        for (int yard = 0; yard < 60; yard++) {
            due("1 yard", x.yard(yard, 0), 0);
            due("1 yard", x.yard(yard, 1), 0);
        }
        for (int sheet = 0; sheet < 4; sheet++) {
            due("1 reads", x.reads(sheet), NOTHING);
        }
        for (int slot = 0; slot < 5; slot++) {
            due("1 item", x.item(slot, 0), NOTHING);
        }
        due("1 told", x.told(0, 0), BAD);
        due("1 back", x.back(), NO);
        for (int key = 0; key < 3; key++) {
            due("1 why", x.why(key), NONE);
        }
    }

    private static void p2Mule() {
        BarleyLine x = new BarleyLine();
        due("2 kind", x.mule(-1, 0, 0, 0), BAD);
        due("2 kind", x.mule(6, 0, 0, 0), BAD);
        due("2 pace", x.mule(0, -1, 0, 0), BAD);
        due("2 pace", x.mule(0, 10, 0, 0), BAD);
        due("2 grain", x.mule(0, 0, -1, 0), BAD);
        due("2 grain", x.mule(0, 0, 10000, 0), BAD);
        due("2 hole", x.mule(0, 0, 0, -1), BAD);
        due("2 hole", x.mule(0, 0, 0, 51), BAD);
        due("2 none came", x.count(0), 0);
        due("2 least", x.mule(0, 0, 0, 0), 0);
        due("2 most", x.mule(5, 9, 9999, 50), 1);
        due("2 kind kept", x.told(1, 0), 5);
        due("2 pace kept", x.told(1, 1), 9);
        due("2 yard", x.told(1, 2), 0);
        due("2 grain kept", x.told(1, 3), 9999);
        due("2 hole kept", x.told(1, 4), 50);
        for (int i = 2; i < 8; i++) {
            due("2 one more", x.mule(1, 1, 1, 1), i);
        }
        due("2 full", x.mule(1, 1, 1, 1), FULL);
        due("2 bad ahead of full", x.mule(6, 1, 1, 1), BAD);
        due("2 count", x.count(0), 8);
    }

    private static void p3Told() {
        BarleyLine x = new BarleyLine();
        int[] leaks = {13, 6, 26, 4, 21, 14};
        int[] goes = {7, 7, 6, 8, 3, 7};
        int[] worth = {63, 69, 36, 138, 28, 4};
        for (int kind = 0; kind < 6; kind++) {
            x.mule(kind, 7, 70, 13);
            due("3 kind", x.told(kind, 0), kind);
            due("3 pace", x.told(kind, 1), 7);
            due("3 grain", x.told(kind, 3), 70);
            due("3 hole", x.told(kind, 4), 13);
            due("3 leaks " + kind, x.told(kind, 5), leaks[kind]);
            due("3 goes " + kind, x.told(kind, 6), goes[kind]);
            due("3 worth " + kind, x.told(kind, 7), worth[kind]);
        }
        int[] leastLeaks = {1, 0, 2, 0, 0, 2};
        int[] leastGoes = {0, 0, 0, 1, 0, 0};
        int[] leastWorth = {0, 6, 99, 12, 91, 4};
        for (int kind = 0; kind < 6; kind++) {
            x.set(kind, 1, 0);
            x.set(kind, 4, 1);
            due("3 least leaks " + kind, x.told(kind, 5), leastLeaks[kind]);
            due("3 least goes " + kind, x.told(kind, 6), leastGoes[kind]);
            due("3 least worth " + kind, x.told(kind, 7), leastWorth[kind]);
        }
        x.set(3, 4, 6);
        due("3 sewn leaks", x.told(3, 5), 1);
        x.set(4, 4, 3);
        due("3 wet leaks", x.told(4, 5), 1);
        x.set(2, 2, 41);
        due("3 yard", x.told(2, 2), 41);
        due("3 mule", x.told(-1, 0), BAD);
        due("3 mule", x.told(6, 0), BAD);
        due("3 what", x.told(0, -1), BAD);
        due("3 what", x.told(0, 8), BAD);
        due("3 extremes", x.told(MAX, MIN), BAD);
    }

    private static void p4As() {
        BarleyLine x = new BarleyLine();
        String[] of = {"0", "01", "02", "013", "024", "05"};
        for (int kind = 0; kind < 6; kind++) {
            x.mule(kind, 1, 1, 10 + kind);
            for (int asked = 0; asked < 6; asked++) {
                boolean is = of[kind].indexOf('0' + asked) >= 0;
                due("4 as " + kind + " " + asked, x.as(kind, asked), is ? 10 + kind : KIND);
            }
        }
        due("4 mule", x.as(6, 0), BAD);
        due("4 mule", x.as(-1, 0), BAD);
        due("4 kind", x.as(0, 6), BAD);
        due("4 kind", x.as(0, -1), BAD);
    }

    private static void p5Turns() {
        BarleyLine x = new BarleyLine();
        x.mule(2, 4, 9, 8);
        due("5 turns", x.turns(0, 3), 2);
        due("5 is so", x.told(0, 0), 3);
        due("5 leaks so", x.told(0, 5), 2);
        due("5 again", x.turns(0, 3), 3);
        due("5 kind", x.turns(0, 6), BAD);
        due("5 kind", x.turns(0, -1), BAD);
        due("5 mule", x.turns(1, 0), BAD);
        due("5 mule", x.turns(-1, 0), BAD);
        due("5 stays", x.told(0, 0), 3);
        due("5 hole stays", x.told(0, 4), 8);
    }

    private static void p6Set() {
        BarleyLine x = new BarleyLine();
        x.mule(0, 1, 2, 3);
        int[] was = {0, 1, 0, 2, 3};
        int[] most = {0, 9, 59, 9999, 50};
        for (int what = 1; what <= 4; what++) {
            due("6 above " + what, x.set(0, what, most[what] + 1), BAD);
            due("6 below " + what, x.set(0, what, -1), BAD);
            due("6 stays " + what, x.told(0, what), was[what]);
            due("6 most " + what, x.set(0, what, most[what]), was[what]);
            due("6 is so " + what, x.told(0, what), most[what]);
            due("6 least " + what, x.set(0, what, 0), most[what]);
            due("6 is least " + what, x.told(0, what), 0);
        }
        due("6 what", x.set(0, 0, 0), BAD);
        due("6 what", x.set(0, 5, 0), BAD);
        due("6 mule", x.set(1, 1, 0), BAD);
        due("6 mule", x.set(-1, 1, 0), BAD);
    }

    private static void p7Rule() {
        BarleyLine x = new BarleyLine();
        int[] least = {0, 0, -3, 0};
        int[] most = {99, 100, 3, 9};
        for (int what = 0; what < 4; what++) {
            due("7 below", x.rule(what, least[what] - 1), BAD);
            due("7 above", x.rule(what, most[what] + 1), BAD);
            due("7 most", x.rule(what, most[what]), 0);
            due("7 is so", x.count(2 + what), most[what]);
            due("7 least", x.rule(what, least[what]), most[what]);
            due("7 is least", x.count(2 + what), least[what]);
        }
        due("7 what", x.rule(-1, 0), BAD);
        due("7 what", x.rule(4, 0), BAD);
    }

    private static void p8Yard() {
        BarleyLine x = new BarleyLine();
        x.mule(0, 3, 100, 50);
        x.minutes(1);
        due("8 own and what is lacking", x.yard(0, 0), 18);
        due("8 second", x.yard(1, 0), 16);
        due("8 third", x.yard(2, 0), 16);
        due("8 beyond", x.yard(3, 0), 0);
        x.rain();
        due("8 grains", x.yard(0, 0), 17);
        due("8 green", x.yard(0, 1), 1);
        due("8 last", x.yard(59, 0), 0);
        due("8 yard", x.yard(-1, 0), BAD);
        due("8 yard", x.yard(60, 0), BAD);
        due("8 what", x.yard(0, -1), BAD);
        due("8 what", x.yard(0, 2), BAD);
    }

    private static void p9Sweep() {
        BarleyLine x = new BarleyLine();
        x.mule(0, 2, 100, 20);
        x.minutes(1);
        x.rain();
        due("9 sweep", x.sweep(1), 9);
        due("9 gone", x.yard(1, 0), 0);
        due("9 green stays", x.yard(1, 1), 1);
        due("9 other stays", x.yard(0, 0), 9);
        due("9 again", x.sweep(1), 0);
        due("9 last", x.sweep(59), 0);
        due("9 yard", x.sweep(-1), BAD);
        due("9 yard", x.sweep(60), BAD);
        due("9 fallen stays", x.way(2), 20);
    }

    private static void p10Rain() {
        BarleyLine x = new BarleyLine();
        x.mule(0, 0, 19, 19);
        x.mule(0, 1, 30, 30);
        x.set(1, 2, 5);
        x.mule(0, 1, 9, 9);
        x.set(2, 2, 8);
        x.minutes(1);
        due("10 rain", x.rain(), 1 + 3);
        due("10 cut", x.yard(0, 1), 1);
        due("10 left", x.yard(0, 0), 18);
        due("10 ten", x.yard(5, 1), 3);
        due("10 below ten", x.yard(8, 1), 0);
        due("10 again", x.rain(), 1 + 2);
        due("10 added", x.yard(5, 1), 5);
    }

    private static int z;

    private static int draw() {
        z = z * 1103515245 + 12345;
        return z >>> 8;
    }

    private static void p11Deal() {
        BarleyLine x = new BarleyLine();
        due("11 below", x.deal(0), BAD);
        due("11 above", x.deal(9), BAD);
        due("11 no draws", x.count(9), 1);
        z = 1;
        due("11 six", x.deal(6), 6);
        for (int k = 0; k < 6; k++) {
            drawnDue(x, k);
        }
        due("11 z", x.count(9), z);
        due("11 room for two", x.deal(5), 2);
        drawnDue(x, 6);
        drawnDue(x, 7);
        due("11 no draws for others", x.count(9), z);
        due("11 no room", x.deal(1), 0);
        due("11 no draws", x.count(9), z);
        due("11 above, full", x.deal(9), BAD);
    }

    private static void drawnDue(BarleyLine x, int k) {
        due("11 kind", x.told(k, 0), draw() % 6);
        due("11 pace", x.told(k, 1), 1 + draw() % 9);
        due("11 yard", x.told(k, 2), 0);
        due("11 grain", x.told(k, 3), draw() % 1000);
        due("11 hole", x.told(k, 4), draw() % 30);
    }

    private static void p12Seed() {
        BarleyLine x = new BarleyLine();
        due("12 first", x.seed(MIN), 1);
        due("12 then", x.seed(77), MIN);
        due("12 is so", x.count(9), 77);
        x.minutes(1);
        z = 77;
        draw();
        draw();
        due("12 two draws", x.count(9), z);
    }

    private static void p13Minutes() {
        BarleyLine x = new BarleyLine();
        due("13 below", x.minutes(0), BAD);
        due("13 above", x.minutes(101), BAD);
        due("13 none passed", x.count(1), 0);
        x.mule(0, 4, 25, 10);
        due("13 fallen", x.minutes(2), 20);
        due("13 all if less", x.minutes(1), 5);
        due("13 none left", x.minutes(1), 0);
        due("13 goes on", x.told(0, 2), 16);
        due("13 rest on its own", x.yard(8, 0), 1 + 1);
        due("13 second", x.yard(9, 0), 1);
        due("13 fallen of all", x.way(2), 25);
        x.set(0, 2, 57);
        x.set(0, 3, 9);
        due("13 near the end", x.minutes(1), 9);
        due("13 own", x.yard(57, 0), 5);
        due("13 before the last", x.yard(58, 0), 4);
        due("13 not beyond", x.told(0, 2), 59);
        x.set(0, 3, 9);
        due("13 at the end", x.minutes(3), 0);
        due("13 kept", x.told(0, 3), 9);
        due("13 last", x.yard(59, 0), 0);
        x.set(0, 2, 3);
        x.set(0, 1, 0);
        due("13 stands", x.minutes(1), 9);
        due("13 stays", x.told(0, 2), 3);
        due("13 all on its yard", x.yard(3, 0), 9 + 2);
        due("13 the minute", x.count(1), 9);
        for (int i = 0; i < 99; i++) {
            x.minutes(100);
        }
        x.set(0, 3, 9999);
        due("13 up to the last", x.count(1), 9909);
        due("13 fewer", x.minutes(100), 900);
        due("13 the last", x.count(1), 9999);
        due("13 none more", x.minutes(100), 0);
        due("13 stays the last", x.count(1), 9999);
        due("13 two draws a minute, none for others", x.count(9), drawsOf(9999));
        due("13 bad still", x.minutes(101), BAD);
    }

    /** z behind minutes of two draws each. */
    private static int drawsOf(int minutes) {
        z = 1;
        for (int i = 0; i < 2 * minutes; i++) {
            draw();
        }
        return z;
    }

    private static void p13Birds() {
        BarleyLine x = new BarleyLine();
        x.mule(0, 0, 9999, 50);
        z = 1;
        int yard = draw() % 60;
        x.set(0, 2, yard);
        x.rule(0, 20);
        x.minutes(1);
        due("13 eaten", x.way(3), 20);
        due("13 left", x.yard(yard, 0), 30);
        x.seed(1);
        x.set(0, 4, 0);
        x.rule(0, 99);
        x.minutes(1);
        due("13 all eaten", x.way(3), 50);
        due("13 none left", x.yard(yard, 0), 0);
    }

    private static void p13Gusts() {
        z = 1;
        draw();
        int strength = draw() % 100;
        int yard = draw() % 60;
        BarleyLine x = new BarleyLine();
        x.mule(0, 0, 9999, 25);
        x.set(0, 2, yard);
        x.rule(1, strength);
        x.rule(2, 3);
        x.minutes(1);
        due("13 no gust", x.yard(yard, 0), 25);
        x.sweep(yard);
        x.rule(1, strength + 1);
        x.seed(1);
        x.minutes(1);
        due("13 z of a gust", x.count(9), z);
        due("13 half stays", x.yard(yard, 0), 13);
        due("13 half goes", x.yard(yard + 3, 0), 12);
        x.sweep(yard);
        x.rule(2, -2);
        x.seed(1);
        x.minutes(1);
        due("13 back", x.yard(yard - 2, 0), 12);
        x.sweep(yard);
        x.rule(2, 0);
        x.seed(1);
        x.minutes(1);
        due("13 no wind", x.yard(yard, 0), 25);
        blownAt(0, -1);
        blownAt(59, 1);
        blownAt(57, 3);
        blownAt(2, -3);
    }

    private static void blownAt(int yard, int wind) {
        BarleyLine x = new BarleyLine();
        x.mule(0, 0, 20, 20);
        x.set(0, 2, yard == 59 ? 58 : yard);
        if (yard == 59) {
            // No grain ever falls on the last yard: a gust has to bring it there first.
            x.rule(1, 100);
            x.rule(2, 1);
            x.seed(seedOfGust(58));
            x.minutes(1);
            due("13 on the last yard", x.yard(59, 0), 10);
        } else {
            x.minutes(1);
        }
        int lies = x.yard(yard, 0);
        x.rule(1, 100);
        x.rule(2, wind);
        x.seed(seedOfGust(yard));
        x.minutes(1);
        due("13 blown " + yard, x.way(4), lies / 2);
        due("13 half left " + yard, x.yard(yard, 0), lies - lies / 2);
    }

    /** A seed by which a gust takes this yard. */
    private static int seedOfGust(int yard) {
        for (int seed = 0; seed < 100000; seed++) {
            z = seed;
            draw();
            draw();
            if (draw() % 60 == yard) {
                return seed;
            }
        }
        return 0;
    }

    private static void p13Thread() {
        BarleyLine x = new BarleyLine();
        x.mule(0, 0, 9999, 1);
        x.mule(0, 0, 9999, 45);
        x.set(1, 2, 59);
        x.rule(3, 9);
        due("13 four minutes", x.minutes(4), 4);
        due("13 not yet", x.told(0, 4), 1);
        due("13 the fifth", x.minutes(1), 1);
        due("13 grown", x.told(0, 4), 10);
        due("13 50 at most, at the end too", x.told(1, 4), 50);
        due("13 next five", x.minutes(5), 50);
        due("13 grown again", x.told(0, 4), 19);
    }

    private static void p14Way() {
        BarleyLine x = new BarleyLine();
        x.mule(0, 4, 100, 20);
        x.mule(0, 2, 100, 6);
        x.set(1, 2, 10);
        x.minutes(1);
        due("14 grains", x.way(0), 26);
        due("14 green", x.way(1), 0);
        due("14 fallen", x.way(2), 26);
        due("14 eaten", x.way(3), 0);
        due("14 blown", x.way(4), 0);
        due("14 grain", x.way(5), 174);
        due("14 trail", x.way(6), 4);
        x.sweep(1);
        due("14 trail cut", x.way(6), 2);
        due("14 swept", x.way(0), 21);
        x.set(0, 2, 0);
        x.minutes(1);
        x.minutes(1);
        x.rain();
        due("14 green", x.way(1), 3);
        due("14 grains", x.way(0), 70);
        due("14 what", x.way(-1), BAD);
        due("14 what", x.way(7), BAD);
    }

    private static void p15Behind() {
        BarleyLine x = new BarleyLine();
        x.mule(0, 1, 50, 10);
        x.mule(5, 1, 50, 10);
        due("15 now", x.behind(0, 0), 0);
        due("15 grains", x.behind(2, 0), 42);
        due("15 grain of 0", x.behind(2, 3), 30);
        due("15 grain of 1", x.behind(2, 4), 28);
        due("15 no mule", x.behind(2, 5), BAD);
        due("15 what", x.behind(2, -1), BAD);
        due("15 below", x.behind(-1, 0), BAD);
        due("15 above", x.behind(101, 0), BAD);
        due("15 most", x.behind(100, 0), 100);
        due("15 nothing changes", x.way(0), 0);
        due("15 z stays", x.count(9), 1);
        x.rule(0, 99);
        x.rule(1, 100);
        x.rule(2, 3);
        x.minutes(60);
        int eaten = x.way(3);
        x.keep();
        int laterEaten = x.behind(40, 1);
        int laterBlown = x.behind(40, 2);
        int laterGrains = x.behind(40, 0);
        x.minutes(40);
        due("15 eaten", laterEaten, x.way(3));
        due("15 blown", laterBlown, x.way(4));
        due("15 grains", laterGrains, x.way(0));
        d.holds("15 birds have eaten", eaten > 0);
        for (int i = 0; i < 99; i++) {
            x.minutes(100);
        }
        x.rule(0, 0);
        x.set(0, 2, 0);
        x.set(0, 1, 0);
        x.set(0, 3, 100);
        due("15 the last minute", x.count(1), 9999);
        due("15 without the bound", x.behind(3, 3), 70);
        x.set(0, 4, 1);
        x.rule(3, 9);
        due("15 the minute goes on", x.behind(6, 3), 100 - 1 - 5 * 10);
    }

    private static void p16Empty() {
        BarleyLine x = new BarleyLine();
        due("16 no mules", x.empty(), 0);
        x.mule(0, 0, 300, 1);
        due("16 at last", x.empty(), 300);
        x.set(0, 3, 301);
        due("16 not by then", x.empty(), NONE);
        x.set(0, 2, 59);
        due("16 at the end", x.empty(), 0);
        x.mule(0, 9, 9999, 0);
        due("16 comes to the end", x.empty(), 7);
        x.mule(0, 0, 0, 0);
        due("16 no grain", x.empty(), 7);
        x.mule(0, 1, 81, 10);
        due("16 the later one", x.empty(), 9);
        due("16 nothing changes", x.told(1, 2), 0);
        due("16 z stays", x.count(9), 1);
        due("16 the minute stays", x.count(1), 0);
    }

    private static void p17Thickest() {
        BarleyLine x = new BarleyLine();
        due("17 none", x.thickest(0, 0), 0);
        due("17 none", x.thickest(0, 1), 0);
        x.mule(0, 1, 40, 10);
        x.set(0, 2, 20);
        due("17 of several the least", x.thickest(3, 0), 20);
        due("17 grains", x.thickest(3, 1), 10);
        x.mule(0, 0, 90, 4);
        x.set(1, 2, 22);
        due("17 now", x.thickest(0, 1), 0);
        due("17 other", x.thickest(3, 0), 22);
        due("17 other", x.thickest(3, 1), 22);
        due("17 far", x.thickest(100, 1), 100);
        due("17 below", x.thickest(-1, 0), BAD);
        due("17 above", x.thickest(101, 0), BAD);
        due("17 what", x.thickest(1, -1), BAD);
        due("17 what", x.thickest(1, 2), BAD);
        due("17 nothing changes", x.way(0), 0);
    }

    private static void p18Patch() {
        BarleyLine x = new BarleyLine();
        due("18 no mules", x.patch(1, 0), NONE);
        due("18 bad ahead of none", x.patch(0, 0), BAD);
        x.mule(0, 1, 100, 10);
        x.mule(0, 1, 100, 20);
        x.mule(0, 1, 100, 20);
        due("18 of several the least", x.patch(2, 0), 1);
        due("18 grain of all", x.patch(2, 1), 80 + 80 + 60);
        x.turns(1, 1);
        due("18 another", x.patch(2, 0), 2);
        due("18 grain", x.patch(2, 1), 80 + 80 + 80);
        x.turns(2, 3);
        due("18 sewn is worse off", x.patch(2, 0), 0);
        due("18 sewn stays", x.patch(2, 1), 90 + 80 + 84);
        due("18 nothing changes", x.told(0, 0), 0);
        due("18 nothing changes", x.told(0, 3), 100);
        due("18 all empty", x.patch(60, 0), 0);
        due("18 all empty", x.patch(60, 1), 0);
        due("18 above", x.patch(61, 0), BAD);
        due("18 what", x.patch(1, 2), BAD);
        due("18 what", x.patch(1, -1), BAD);
    }

    private static void p19Pan() {
        BarleyLine x = new BarleyLine();
        x.mule(0, 0, 100, 10);
        due("19 each heap once", x.pan(0, 4), 40);
        x.set(0, 2, 6);
        due("19 walks by", x.pan(2, 2), 0);
        due("19 on the third", x.pan(2, 3), 30);
        due("19 and on", x.pan(2, 9), 30);
        x.set(0, 2, 58);
        x.set(0, 1, 1);
        due("19 not on the last", x.pan(9, 60), 0);
        due("19 on the yard", x.pan(1, 58), 10);
        due("19 not by then", x.pan(1, 57), 0);
        due("19 pace", x.pan(-1, 1), BAD);
        due("19 pace", x.pan(10, 1), BAD);
        due("19 below", x.pan(1, 0), BAD);
        due("19 above", x.pan(1, 61), BAD);
        due("19 nothing changes", x.way(0), 0);
        x.rule(1, 100);
        x.rule(2, 1);
        x.seed(seedOfGust(58));
        due("19 before the last yard", x.pan(9, 6), 0);
        int taken = x.pan(9, 7);
        x.minutes(7);
        d.holds("19 a gust brought some", taken >= 5);
        due("19 59 at most", taken, x.yard(59, 0));
    }

    private static void p20Whose() {
        BarleyLine x = new BarleyLine();
        due("20 bad ahead of nothing", x.whose(0, 61, 0), BAD);
        due("20 nothing ahead of none", x.whose(0, 0, 0), NOTHING);
        x.sheet(0, 1, 4);
        due("20 none", x.whose(0, 0, 0), NONE);
        x.mule(0, 1, 100, 10);
        x.mule(0, 2, 100, 10);
        x.mule(0, 2, 100, 10);
        x.mark(0, 0, 5);
        x.mark(0, 1, 5);
        x.mark(0, 2, 4);
        x.mark(0, 3, 7);
        due("20 the one", x.whose(0, 2, 0), 1);
        due("20 differences", x.whose(0, 2, 1), 3);
        x.mark(0, 3, NONE);
        due("20 no number", x.whose(0, 2, 1), 1);
        due("20 now", x.whose(0, 0, 1), 14);
        due("20 of several the least", x.whose(0, 0, 0), 0);
        x.mark(0, 0, 10);
        x.mark(0, 1, 10);
        x.mark(0, 2, 0);
        due("20 another", x.whose(0, 2, 0), 0);
        due("20 just so", x.whose(0, 2, 1), 0);
        x.turns(1, 5);
        due("20 others leak still", x.whose(0, 2, 1), 2);
        due("20 nothing changes", x.told(1, 4), 10);
        due("20 sheet", x.whose(-1, 0, 0), BAD);
        due("20 sheet", x.whose(4, 0, 0), BAD);
        due("20 below", x.whose(0, -1, 0), BAD);
        due("20 above", x.whose(0, 61, 0), BAD);
        due("20 what", x.whose(0, 0, -1), BAD);
        due("20 what", x.whose(0, 0, 2), BAD);
    }

    private static void p21Fee() {
        BarleyLine x = new BarleyLine();
        x.mule(0, 0, 9999, 50);
        x.rule(0, 7);
        x.rule(1, 100);
        x.rule(2, -3);
        x.minutes(100);
        d.holds("21 eaten and blown", x.way(3) > 0 && x.way(4) > 0);
        due("21 without a text", x.fee(), x.way(3));
        Dues.text(x, "fee e*1000-b");
        due("21 with one", x.fee(), x.way(3) * 1000 - x.way(4));
        Dues.text(x, "fee 0-5");
        due("21 the last, below 0", x.fee(), -5);
    }

    private static void p22Fine() {
        BarleyLine x = new BarleyLine();
        x.mule(0, 3, 70, 10);
        x.minutes(1);
        due("22 without a text", x.fine(0), 60);
        Dues.text(x, "fine g*y");
        due("22 with one", x.fine(0), 180);
        Dues.text(x, "fine y-g");
        due("22 the last", x.fine(0), -57);
        due("22 mule", x.fine(1), BAD);
        due("22 mule", x.fine(-1), BAD);
    }

    private static void p23Feed() {
        BarleyLine x = new BarleyLine();
        due("23 twelve", x.feed(0x66656520, 0x31323320, 0x20202020), 12);
        due("23 highest first", x.text(), 0);
        due("23 as told", x.fee(), 123);
        for (int i = 1; i <= 8; i++) {
            due("23 more", x.feed(MIN, -1, MAX), 12 * i);
        }
        due("23 full", x.feed(0, 0, 0), FULL);
        due("23 stays", x.count(8), 96);
        x.trim(85);
        due("23 would be 97", x.feed(0, 0, 0), FULL);
        due("23 stays", x.count(8), 85);
        x.trim(84);
        due("23 just so", x.feed(0, 0, 0), 96);
    }

    private static void p24Trim() {
        BarleyLine x = new BarleyLine();
        due("24 none", x.trim(0), 0);
        due("24 above", x.trim(1), BAD);
        x.feed(0x66656520, 0x31323334, 0x20202020);
        due("24 below", x.trim(-1), BAD);
        due("24 above", x.trim(13), BAD);
        due("24 all", x.trim(12), 12);
        due("24 first six", x.trim(6), 6);
        due("24 is so", x.count(8), 6);
        due("24 a text", x.text(), 0);
        due("24 of the first", x.fee(), 12);
    }

    private static void p25Text() {
        BarleyLine x = new BarleyLine();
        due("25 no bytes", x.text(), -100);
        for (int i = 0; i < 14; i++) {
            due("25 number", Dues.text(x, "leak " + i), i);
            due("25 used up", x.count(8), 0);
        }
        due("25 full", Dues.text(x, "leak h"), FULL);
        due("25 used up by full", x.count(8), 0);
        due("25 fault ahead of full", Dues.text(x, "leak h+"), -107);
        due("25 used up by a fault", x.count(8), 0);
        due("25 how many", x.count(6), 14);
        due("25 full changes nothing", x.why(0), 13);
        due("25 nor what it gives", textGives(x), 13);
        BarleyLine y = new BarleyLine();
        y.mule(2, 1, 9999, 1);
        Dues.text(y, "leak h*1000");
        due("25 999 at most", y.told(0, 5), 1998);
        Dues.text(y, "leak p-g");
        due("25 0 at least", y.told(0, 5), 0);
        Dues.text(y, "leak g/100+p");
        due("25 by grain and pace", y.told(0, 5), 200);
        due("25 leaks so", y.minutes(1), 200);
        due("25 leaks so", y.told(0, 5), 2 * (97 + 1));
    }

    private static int textGives(BarleyLine x) {
        x.mule(0, 0, 0, 0);
        return x.told(0, 5);
    }

    private static void p26TextTold() {
        BarleyLine x = new BarleyLine();
        Dues.text(x, "fine (g+1)*!y");
        Dues.text(x, "leak 12");
        Dues.text(x, "fee e|b&e<b");
        due("26 key", x.textTold(0, 0), 2);
        due("26 leaves", x.textTold(0, 1), 3);
        due("26 key", x.textTold(1, 0), 0);
        due("26 leaves", x.textTold(1, 1), 1);
        due("26 key", x.textTold(2, 0), 1);
        due("26 leaves", x.textTold(2, 1), 4);
        due("26 text", x.textTold(3, 0), BAD);
        due("26 text", x.textTold(-1, 0), BAD);
        due("26 what", x.textTold(0, 2), BAD);
        due("26 what", x.textTold(0, -1), BAD);
    }

    private static void p27Why() {
        BarleyLine x = new BarleyLine();
        due("27 none", x.why(1), NONE);
        Dues.text(x, "fee 1");
        Dues.text(x, "leak 1");
        Dues.text(x, "fee 2");
        due("27 leak", x.why(0), 1);
        due("27 the last told", x.why(1), 2);
        due("27 none", x.why(2), NONE);
        Dues.text(x, "fee 2+");
        due("27 a fault counts not", x.why(1), 2);
        due("27 key", x.why(3), BAD);
        due("27 key", x.why(-1), BAD);
    }

    private static void p28Sheet() {
        BarleyLine x = new BarleyLine();
        due("28 sheet", x.sheet(-1, 0, 1), BAD);
        due("28 sheet", x.sheet(4, 0, 1), BAD);
        due("28 sort", x.sheet(0, -2, 1), BAD);
        due("28 sort", x.sheet(0, 2, 1), BAD);
        due("28 above", x.sheet(0, 0, 25), BAD);
        due("28 below", x.sheet(0, 0, -1), SIZE);
        due("28 below", x.sheet(0, 1, MIN), SIZE);
        due("28 bad ahead of size", x.sheet(4, 0, -1), BAD);
        due("28 missing still", x.mark(0, 0, 0), NOTHING);
        due("28 most", x.sheet(3, 1, 24), 24);
        due("28 last place", x.mark(3, 23, 5), 1);
        due("28 no more", x.mark(3, 24, 5), INDEX);
        due("28 least", x.sheet(2, 0, 0), 0);
        due("28 no place", x.mark(2, 0, 5), INDEX);
        due("28 anew", x.sheet(3, 1, 24), 24);
        x.lay(0, 2, 3);
        due("28 all 0", x.item(0, 23), 0);
        due("28 missing, n any", x.sheet(3, -1, 99), 0);
        due("28 missing, n any", x.sheet(2, -1, -9), 0);
        due("28 is missing", x.mark(3, 0, 0), NOTHING);
    }

    private static void p29Mark() {
        BarleyLine x = new BarleyLine();
        due("29 sheet", x.mark(4, 0, 0), BAD);
        due("29 sheet", x.mark(-1, 0, 0), BAD);
        due("29 nothing", x.mark(0, -1, 0), NOTHING);
        x.sheet(0, 0, 2);
        x.sheet(1, 1, 2);
        due("29 index", x.mark(0, 2, NONE), INDEX);
        due("29 index", x.mark(1, -1, 100000), INDEX);
        due("29 kind", x.mark(0, 0, NONE), KIND);
        due("29 shorts", x.mark(0, 0, 0x12348765), 1);
        due("29 shorts", x.mark(0, 1, 65535 + 8), 1);
        x.lay(0, 2, 0);
        due("29 lowest bits", x.item(0, 0), (short) 0x8765);
        due("29 lowest bits", x.item(0, 1), 7);
        due("29 above", x.mark(1, 0, 100000), BAD);
        due("29 below", x.mark(1, 0, -100000), BAD);
        due("29 most", x.mark(1, 0, 99999), 1);
        due("29 least", x.mark(1, 1, -99999), 1);
        x.lay(1, 2, 1);
        due("29 most", x.item(1, 0), 99999);
        due("29 least", x.item(1, 1), -99999);
        due("29 no number", x.mark(1, 0, NONE), 1);
        x.lay(1, 2, 1);
        due("29 is none", x.item(1, 0), KIND);
    }

    private static void p30Pour() {
        BarleyLine x = new BarleyLine();
        due("30 sheet", x.pour(4), BAD);
        due("30 sheet", x.pour(-1), BAD);
        due("30 nothing", x.pour(0), NOTHING);
        x.sheet(0, 1, 4);
        due("30 no mules", x.pour(0), 0);
        for (int i = 0; i < 5; i++) {
            x.mule(0, 1, 1, 7);
        }
        x.mark(0, 0, 51);
        x.mark(0, 1, NONE);
        x.mark(0, 2, -4);
        x.mark(0, 3, 7);
        due("30 otherwise", x.pour(0), 2);
        int[] holes = {50, 7, 0, 7, 7};
        for (int i = 0; i < 5; i++) {
            due("30 hole", x.told(i, 4), holes[i]);
        }
        due("30 again", x.pour(0), 0);
        x.sheet(1, 0, 24);
        due("30 more places than mules", x.pour(1), 4);
    }

    private static void p31Reads() {
        BarleyLine x = new BarleyLine();
        due("31 sheet", x.reads(4), BAD);
        due("31 sheet", x.reads(-1), BAD);
        due("31 nothing", x.reads(0), NOTHING);
        x.mule(0, 3, 9, 9);
        x.minutes(1);
        x.sheet(0, 1, 4);
        due("31 first", x.reads(0), 0);
        x.mark(0, 0, 3);
        x.mark(0, 1, NONE);
        due("31 of numbers alone", x.reads(0), 2);
        x.mark(0, 2, 3);
        due("31 none", x.reads(0), NONE);
        x.mark(0, 3, -1);
        due("31 last", x.reads(0), 3);
        x.sheet(1, 0, 0);
        due("31 no places", x.reads(1), NONE);
    }

    private static void p32Copy() {
        BarleyLine x = new BarleyLine();
        due("32 from", x.copy(4, 0, 0, 0, 0), BAD);
        due("32 to", x.copy(0, 0, -1, 0, 0), BAD);
        x.sheet(0, 1, 5);
        due("32 to is missing", x.copy(0, 0, 1, 0, 0), NOTHING);
        due("32 from is missing", x.copy(1, 0, 0, 0, 0), NOTHING);
        x.sheet(1, 0, 5);
        due("32 sorts", x.copy(0, 9, 1, 0, 1), KIND);
        x.sheet(1, 1, 3);
        for (int i = 0; i < 5; i++) {
            x.mark(0, i, i == 2 ? NONE : 10 + i);
        }
        due("32 many", x.copy(0, 1, 1, 0, 3), 3);
        x.lay(0, 2, 1);
        due("32 came", x.item(0, 0), 11);
        due("32 no number too", x.item(0, 1), KIND);
        due("32 came", x.item(0, 2), 13);
        due("32 up", x.copy(0, 0, 0, 1, 4), 4);
        x.lay(0, 2, 0);
        due("32 as they were", x.item(0, 1), 10);
        due("32 as they were", x.item(0, 2), 11);
        due("32 as they were", x.item(0, 4), 13);
        due("32 down", x.copy(0, 1, 0, 0, 4), 4);
        x.lay(0, 2, 0);
        due("32 as they were", x.item(0, 0), 10);
        due("32 as they were", x.item(0, 1), 11);
        due("32 as they were", x.item(0, 3), 13);
        due("32 none at the end", x.copy(0, 5, 1, 3, 0), 0);
        due("32 beyond the end", x.copy(0, 6, 1, 0, 0), INDEX);
        due("32 beyond the end", x.copy(0, 0, 1, 4, 0), INDEX);
        due("32 too many from", x.copy(0, 3, 1, 0, 3), INDEX);
        due("32 too many to", x.copy(0, 0, 1, 1, 3), INDEX);
        due("32 place below", x.copy(0, -1, 1, 0, 1), INDEX);
        due("32 at below", x.copy(0, 0, 1, -1, 1), INDEX);
        due("32 many below", x.copy(0, 1, 1, 1, -1), INDEX);
        due("32 extremes", x.copy(0, MAX, 1, MAX, MAX), INDEX);
        due("32 extremes", x.copy(0, 1, 1, 1, MIN), INDEX);
    }

    private static void p33Lay() {
        BarleyLine x = new BarleyLine();
        x.mule(0, 1, 1, 1);
        x.sheet(0, 0, 1);
        due("33 slot", x.lay(-1, 0, 0), BAD);
        due("33 slot", x.lay(5, 0, 0), BAD);
        due("33 thing", x.lay(0, -1, 0), BAD);
        due("33 thing", x.lay(0, 4, 0), BAD);
        due("33 mule", x.lay(0, 1, 1), BAD);
        due("33 mule", x.lay(0, 1, -1), BAD);
        due("33 sheet", x.lay(0, 2, 4), BAD);
        due("33 sheet", x.lay(0, 2, -1), BAD);
        due("33 missing", x.lay(0, 2, 1), NOTHING);
        due("33 a mule", x.lay(4, 1, 0), 0);
        due("33 a sheet", x.lay(4, 2, 0), 1);
        due("33 a number", x.lay(4, 3, MIN), 2);
        due("33 refused", x.lay(4, 2, 2), NOTHING);
        due("33 nothing, k any", x.lay(4, 0, MAX), 3);
        due("33 nothing", x.lay(4, 0, 0), 0);
        x.lay(4, 2, 0);
        x.mark(0, 0, 9);
        due("33 as it was then", x.item(4, 0), 0);
        x.sheet(0, -1, 0);
        due("33 of its own", x.item(4, 0), 0);
    }

    private static void p34Ask() {
        BarleyLine x = new BarleyLine();
        x.mule(3, 4, 1, 1);
        x.sheet(0, 0, 1);
        x.lay(0, 1, 0);
        x.lay(1, 2, 0);
        x.lay(2, 3, 0);
        due("34 taken for a mule", x.ask(0, 0), 84);
        due("34 taken for patched", x.ask(0, 1), 84);
        due("34 as it is", x.ask(0, 3), 84);
        due("34 not torn", x.ask(0, 2), KIND);
        due("34 not wet", x.ask(0, 4), KIND);
        due("34 not oats", x.ask(0, 5), KIND);
        due("34 a sheet", x.ask(1, 0), KIND);
        due("34 a number", x.ask(2, 0), KIND);
        due("34 nothing", x.ask(3, 0), NOTHING);
        due("34 kind ahead of nothing", x.ask(3, 6), BAD);
        due("34 kind", x.ask(0, -1), BAD);
        due("34 slot", x.ask(5, 0), BAD);
        due("34 slot", x.ask(-1, 0), BAD);
        x.set(0, 1, 9);
        x.turns(0, 2);
        due("34 for good", x.ask(0, 3), 84);
        x.keep();
        x.back();
        due("34 an image leaves it", x.ask(0, 3), 84);
    }

    private static void p35Item() {
        BarleyLine x = new BarleyLine();
        x.mule(0, 1, 1, 1);
        x.sheet(0, 1, 2);
        x.mark(0, 0, -7);
        x.mark(0, 1, NONE);
        x.lay(0, 2, 0);
        x.lay(1, 1, 0);
        x.lay(2, 3, 5);
        due("35 item", x.item(0, 0), -7);
        due("35 no number", x.item(0, 1), KIND);
        due("35 index", x.item(0, 2), INDEX);
        due("35 index", x.item(0, -1), INDEX);
        due("35 a mule", x.item(1, 9), KIND);
        due("35 a number", x.item(2, 0), KIND);
        due("35 nothing", x.item(3, 9), NOTHING);
        due("35 slot", x.item(5, 0), BAD);
        due("35 slot", x.item(-1, 0), BAD);
    }

    private static void p36Rest() {
        BarleyLine x = new BarleyLine();
        x.mule(0, 1, 1, 1);
        x.lay(0, 3, -17);
        x.lay(1, 3, MIN);
        x.lay(2, 1, 0);
        due("36 rest", x.rest(0, 5), -2);
        due("36 rest", x.rest(0, -5), -2);
        due("36 least by -1", x.rest(1, -1), 0);
        due("36 least", x.rest(1, MAX), -1);
        due("36 by 0", x.rest(0, 0), NO);
        due("36 a mule", x.rest(2, 0), KIND);
        due("36 nothing", x.rest(3, 0), NOTHING);
        due("36 slot", x.rest(5, 0), BAD);
        due("36 slot", x.rest(-1, 1), BAD);
    }

    private static void p37Tell() {
        BarleyLine x = new BarleyLine();
        for (int i = 1; i <= 60; i++) {
            due("37 waits", x.tell(i), i);
        }
        due("37 full", x.tell(1), FULL);
        due("37 how many", x.count(7), 60);
    }

    private static void p38Check() {
        BarleyLine x = new BarleyLine();
        x.tell(1);
        due("38 below", x.check(0), BAD);
        due("38 none wait then", x.count(7), 0);
        x.tell(1);
        due("38 above", x.check(31), BAD);
        due("38 none wait then", x.count(7), 0);
        x.tell(1);
        due("38 no image", x.check(1), NO);
        due("38 none wait then", x.count(7), 0);
        x.mule(0, 1, 99, 10);
        x.keep();
        x.minutes(5);
        due("38 right", told(x, 2, 10, 0, 20, 0), 0);
        due("38 none wait then", x.count(7), 0);
        due("38 first wrong", told(x, 2, 11, 0, 20, 0), 1);
        due("38 second wrong", told(x, 2, 10, 1, 20, 0), 2);
        due("38 last wrong", told(x, 2, 10, 0, 20, 9), 4);
        due("38 missing", told(x, 2, 10, 0, 20), 4);
        due("38 all missing", told(x, 2), 1);
        due("38 one too many", told(x, 2, 10, 0, 20, 0, 30), 5);
        due("38 wrong ahead of too many", told(x, 1, 10, 1, 20, 0), 2);
        due("38 nothing changes", x.count(1), 5);
        x.rule(0, 9);
        x.minutes(100);
        due("38 by the image, not by now", told(x, 1, 10, 0), 0);
        x.keep();
        for (int i = 0; i < 30; i++) {
            x.tell(x.behind(i + 1, 0));
            x.tell(x.behind(i + 1, 1));
        }
        due("38 thirty", x.check(30), 0);
        for (int i = 0; i < 99; i++) {
            x.minutes(100);
        }
        due("38 the last", x.count(1), 9999);
        x.keep();
        due("38 no minutes left", x.check(30), 0);
        due("38 one too many", told(x, 30, 5), 1);
    }

    private static int told(BarleyLine x, int n, int... numbers) {
        for (int v : numbers) {
            x.tell(v);
        }
        return x.check(n);
    }

    private static void p39Keep() {
        BarleyLine x = new BarleyLine();
        due("39 none", x.keep(), 0);
        x.mule(0, 1, 1, 1);
        due("39 one", x.keep(), 1);
        due("39 the later image", x.back(), 1);
    }

    private static void p40Back() {
        BarleyLine x = new BarleyLine();
        due("40 no image", x.back(), NO);
        x.mule(2, 3, 900, 10);
        x.rule(0, 5);
        x.rule(1, 90);
        x.rule(2, 1);
        x.rule(3, 1);
        Dues.text(x, "leak h+2");
        x.minutes(40);
        x.set(0, 2, 7);
        x.minutes(9);
        x.rain();
        x.sheet(0, 0, 2);
        x.lay(0, 3, 8);
        x.tell(4);
        x.feed(1, 2, 3);
        int[] kept = all(x);
        due("40 keep", x.keep(), 1);
        for (int again = 0; again < 2; again++) {
            x.deal(3);
            x.turns(0, 5);
            x.set(0, 2, 0);
            x.minutes(30);
            x.rain();
            x.sweep(1);
            x.seed(5);
            x.rule(0, 0);
            x.rule(1, 0);
            x.rule(2, 0);
            x.rule(3, 0);
            due("40 one text more", Dues.text(x, again == 0 ? "leak 1" : "fee 3"), 1);
            Dues.text(x, "fine 7");
            x.sheet(0, 1, 5 + again);
            x.lay(0, 3, 9 + again);
            x.tell(4);
            x.feed(1, 2, 3);
            due("40 back", x.back(), 1);
            int[] is = all(x);
            for (int i = 0; i < kept.length; i++) {
                due("40 as kept, " + i, is[i], kept[i]);
            }
            due("40 sheets stay", x.mark(0, 4 + again, NONE), 1);
            due("40 slots stay", x.rest(0, 100), 9 + again);
            due("40 numbers stay", x.count(7), 2 + again);
            due("40 the tape stays", x.count(8), 12);
            due("40 text gone", x.textTold(1, 0), BAD);
        }
    }

    /** All that an image keeps, as far as calls tell it. */
    private static int[] all(BarleyLine x) {
        int[] all = new int[100];
        int n = 0;
        for (int what = 0; what < 8; what++) {
            all[n++] = x.told(0, what);
        }
        all[n++] = x.told(1, 0);
        // Of each yard one of the two: to tell both three times would take more than an object's 512 calls.
        for (int yard = 0; yard < 60; yard++) {
            all[n++] = x.yard(yard, yard % 2);
        }
        for (int what = 0; what < 7; what++) {
            all[n++] = x.way(what);
            all[n++] = x.count(what);
        }
        all[n++] = x.count(9);
        for (int key = 0; key < 3; key++) {
            all[n++] = x.why(key);
        }
        all[n++] = x.fee();
        all[n++] = x.fine(0);
        return all;
    }

    private static void p41Count() {
        BarleyLine x = new BarleyLine();
        x.mule(0, 1, 1, 1);
        x.mule(0, 1, 1, 1);
        x.minutes(3);
        x.rule(0, 4);
        x.rule(1, 5);
        x.rule(2, -1);
        x.rule(3, 7);
        Dues.text(x, "fee 1");
        x.tell(1);
        x.tell(1);
        x.tell(1);
        x.feed(1, 1, 1);
        x.seed(-9);
        int[] counts = {2, 3, 4, 5, -1, 7, 1, 3, 12, -9};
        for (int what = 0; what < 10; what++) {
            due("41 count(" + what + ")", x.count(what), counts[what]);
        }
        due("41 what", x.count(-1), BAD);
        due("41 what", x.count(10), BAD);
    }
}
