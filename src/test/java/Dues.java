/**
 * What every test shares: it prints each answer that is not as due, and ends with exit code 1 if there was one; with 2 if
 * it comes to no end, as no call may fail to end.
 */
final class Dues {
    private static final long LONGEST = 300000;

    private final String test;
    private volatile String sentence = "";
    private int asked;
    private int wrong;

    Dues(String test) {
        this.test = test;
        Thread watch = new Thread(this::endAtLast);
        watch.setDaemon(true);
        watch.start();
    }

    private void endAtLast() {
        try {
            Thread.sleep(LONGEST);
        } catch (InterruptedException e) {
            return;
        }
        System.out.println(test + sentence + ": comes to no end");
        System.out.flush();
        Runtime.getRuntime().halt(2);
    }

    /** Begins the test of a sentence of the document: what is not as due from here on breaks it. */
    void says(String words) {
        sentence = " \"" + words + "\"";
    }

    void due(String call, long got, long want) {
        asked++;
        if (got != want) {
            wrong++;
            System.out.println(test + sentence + ": " + call + " answered " + got + ", due is " + want);
        }
    }

    void holds(String what, boolean so) {
        due(what, so ? 1 : 0, 1);
    }

    void end() {
        System.out.println(test + ": " + asked + " asked, " + wrong + " wrong");
        if (wrong != 0) {
            System.exit(1);
        }
    }

    /** Lays a tape of just these bytes (96 at most), in place of what the tape has. */
    static void tape(BarleyLine x, String bytes) {
        x.trim(0);
        for (int at = 0; at < bytes.length(); at += 12) {
            x.feed(four(bytes, at), four(bytes, at + 4), four(bytes, at + 8));
        }
        x.trim(bytes.length());
    }

    static int text(BarleyLine x, String bytes) {
        tape(x, bytes);
        return x.text();
    }

    static int four(String bytes, int at) {
        int four = 0;
        for (int i = at; i < at + 4; i++) {
            four = four << 8 | (i < bytes.length() ? bytes.charAt(i) & 255 : 0);
        }
        return four;
    }

    static String many(String what, int times) {
        return what.repeat(times);
    }
}
