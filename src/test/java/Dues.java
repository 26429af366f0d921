/** What every test shares: it prints each answer that is not as due, and ends with exit code 1 if there was one. */
final class Dues {
    private final String test;
    private int asked;
    private int wrong;

    Dues(String test) {
        this.test = test;
    }

    void due(String call, long got, long want) {
        asked++;
        if (got != want) {
            wrong++;
            System.out.println(test + ": " + call + " answered " + got + ", due is " + want);
        }
    }

    void holds(String what, boolean so) {
        due(what, so ? 1 : 0, 1);
    }

    void end() {
        System.out.println(test + ": " + asked + " asked, " + wrong + " wrong");
        if (wrong != 0) {
            System.exit(1);
        }
    }

    /** Lays a tape of just these bytes (96 at most), in place of what the tape has. */
    static void tape(BarleyLine x, String bytes) {
        x.trim(0);
        for (int at = 0; at < bytes.length(); at += 12) {
            x.feed(four(bytes, at), four(bytes, at + 4), four(bytes, at + 8));
        }
        x.trim(bytes.length());
    }

    static int text(BarleyLine x, String bytes) {
        tape(x, bytes);
        return x.text();
    }

    static int four(String bytes, int at) {
        int four = 0;
        for (int i = at; i < at + 4; i++) {
            four = four << 8 | (i < bytes.length() ? bytes.charAt(i) & 255 : 0);
        }
        return four;
    }

    static String many(String what, int times) {
        return what.repeat(times);
    }
}
