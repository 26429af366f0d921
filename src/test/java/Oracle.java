import java.util.ArrayList;
import java.util.HashMap;
import java.util.List;
import java.util.Map;
import java.util.function.Function;

/**
 * The document a second time, written apart from BarleyLine and in other ways (kinds as classes, laws as functions,
 * real rows of shorts and floats, refusals as exceptions), so that the two can be asked the same things.
 */
final class Oracle {
    static final int BAD = -1000000001, NO = -1000000002, FULL = -1000000003, NONE = -1000000005,
            NOTHING = -1000000011, KIND = -1000000012, INDEX = -1000000013, SIZE = -1000000014;

    private static final class Fault extends Exception {
        private static final long serialVersionUID = 1;
        final int place;

        Fault(int place) {
            this.place = place;
        }
    }

    private static class Mule {
        int pace;
        int yard;
        int grain;
        int hole;

        int leaks(Ground g) {
            Law law = g.law("leak");
            return law == null ? hole : Math.max(0, Math.min(999, law.gives(Map.of('h', hole, 'p', pace, 'g', grain))));
        }

        int goes() {
            return pace;
        }

        int worth() {
            return 9 * pace;
        }

        Mule as(int kind) {
            Mule m = ofKind(kind);
            m.pace = pace;
            m.yard = yard;
            m.grain = grain;
            m.hole = hole;
            return m;
        }
    }

    private static class Patched extends Mule {
        @Override int leaks(Ground g) {
            return super.leaks(g) / 2;
        }

        @Override int worth() {
            return super.worth() + 6;
        }
    }

    private static class Torn extends Mule {
        @Override int leaks(Ground g) {
            return super.leaks(g) * 2;
        }

        @Override int goes() {
            return Math.max(super.goes() - 1, 0);
        }

        @Override int worth() {
            return 99 - super.worth();
        }
    }

    private static final class Sewn extends Patched {
        @Override int leaks(Ground g) {
            return Math.max(super.leaks(g) - 2, 0);
        }

        @Override int goes() {
            return super.goes() + 1;
        }

        @Override int worth() {
            return super.worth() * 2;
        }
    }

    private static final class Wet extends Torn {
        @Override int leaks(Ground g) {
            return Math.max(super.leaks(g) - 5, 0);
        }

        @Override int goes() {
            return super.goes() / 2;
        }

        @Override int worth() {
            return super.worth() - 8;
        }
    }

    private static final class Oats extends Mule {
        @Override int leaks(Ground g) {
            return super.leaks(g) + 1;
        }

        @Override int worth() {
            return 4;
        }
    }

    private static final List<Class<? extends Mule>> KINDS =
            List.of(Mule.class, Patched.class, Torn.class, Sewn.class, Wet.class, Oats.class);

    private static Mule ofKind(int kind) {
        switch (kind) {
            case 0: return new Mule();
            case 1: return new Patched();
            case 2: return new Torn();
            case 3: return new Sewn();
            case 4: return new Wet();
            default: return new Oats();
        }
    }

    private static int kindOf(Mule m) {
        return KINDS.indexOf(m.getClass());
    }

    private static final class Law {
        final String key;
        int leaves;
        Function<Map<Character, Integer>, Integer> e;

        Law(String key) {
            this.key = key;
        }

        int gives(Map<Character, Integer> names) {
            return e.apply(names);
        }
    }

    /** Takes the text apart by its loosest sign, from the right, on words found ahead of that; faults come first. */
    private static final class Grammar {
        private final List<String> words = new ArrayList<>();
        private final List<Integer> places = new ArrayList<>();
        private final int length;
        private int at;
        private int brackets;
        private int nots;
        private Law law;

        Grammar(String s) {
            length = s.length();
            int i = 0;
            while (i < length) {
                char c = s.charAt(i);
                if (c == ' ') {
                    i++;
                    continue;
                }
                int from = i;
                String row = c >= 'a' && c <= 'z' ? "[a-z]" : c >= '0' && c <= '9' ? "[0-9]" : null;
                i++;
                while (row != null && i < length && s.substring(i, i + 1).matches(row)) {
                    i++;
                }
                String word = s.substring(from, i);
                boolean behindWord = from > 0 && s.substring(from - 1, from).matches("[a-z0-9]");
                boolean wrong = row != null && behindWord || word.matches("[0-9]{5,}");
                words.add(wrong ? "??" : word);
                places.add(from);
            }
        }

        private String word() {
            return at < words.size() ? words.get(at) : "";
        }

        private Fault fault() {
            return new Fault(at < words.size() ? places.get(at) : length);
        }

        Law law() throws Fault {
            if (!List.of("leak", "fee", "fine").contains(word())) {
                throw fault();
            }
            law = new Law(word());
            at++;
            law.e = or();
            if (at < words.size()) {
                throw fault();
            }
            return law;
        }

        private Function<Map<Character, Integer>, Integer> or() throws Fault {
            var left = and();
            while (word().equals("|")) {
                at++;
                var l = left;
                var r = and();
                left = m -> (l.apply(m) != 0) | (r.apply(m) != 0) ? 1 : 0;
            }
            return left;
        }

        private Function<Map<Character, Integer>, Integer> and() throws Fault {
            var left = test();
            while (word().equals("&")) {
                at++;
                var l = left;
                var r = test();
                left = m -> (l.apply(m) != 0) & (r.apply(m) != 0) ? 1 : 0;
            }
            return left;
        }

        private Function<Map<Character, Integer>, Integer> test() throws Fault {
            var l = sum();
            String sign = word();
            if (!sign.matches("[<=>]")) {
                return l;
            }
            at++;
            var r = sum();
            int wanted = "<=>".indexOf(sign) - 1;
            return m -> Integer.compare(l.apply(m), r.apply(m)) == wanted ? 1 : 0;
        }

        private Function<Map<Character, Integer>, Integer> sum() throws Fault {
            var left = term();
            while (word().matches("[+-]")) {
                int by = word().equals("+") ? 1 : -1;
                at++;
                var l = left;
                var r = term();
                left = m -> l.apply(m) + by * r.apply(m);
            }
            return left;
        }

        private Function<Map<Character, Integer>, Integer> term() throws Fault {
            var left = piece();
            while (word().matches("[*/]")) {
                boolean times = word().equals("*");
                at++;
                var l = left;
                var r = piece();
                left = m -> times ? l.apply(m) * r.apply(m) : r.apply(m) == 0 ? 0 : l.apply(m) / r.apply(m);
            }
            return left;
        }

        private Function<Map<Character, Integer>, Integer> piece() throws Fault {
            String w = word();
            if (w.matches("[0-9]+")) {
                at++;
                law.leaves++;
                int v = Integer.parseInt(w);
                return m -> v;
            }
            String names = law.key.equals("leak") ? "hpg" : law.key.equals("fee") ? "eb" : "gy";
            if (w.length() == 1 && names.contains(w)) {
                at++;
                law.leaves++;
                char c = w.charAt(0);
                return m -> m.get(c);
            }
            if (w.equals("!") && nots < 8) {
                at++;
                nots++;
                var of = piece();
                nots--;
                return m -> of.apply(m) == 0 ? 1 : 0;
            }
            if (w.equals("(") && brackets < 8) {
                at++;
                brackets++;
                var of = or();
                brackets--;
                if (!word().equals(")")) {
                    throw fault();
                }
                at++;
                return of;
            }
            throw fault();
        }
    }

    private static final class Ground {
        final List<Mule> mules = new ArrayList<>();
        final List<Law> laws = new ArrayList<>();
        int[] grains = new int[60];
        int[] green = new int[60];
        int[] rules = new int[4];
        int fallen;
        int eaten;
        int blown;
        int minute;
        int z = 1;

        Ground copied() {
            Ground g = new Ground();
            for (Mule m : mules) {
                g.mules.add(m.as(kindOf(m)));
            }
            g.laws.addAll(laws);
            g.grains = grains.clone();
            g.green = green.clone();
            g.rules = rules.clone();
            g.fallen = fallen;
            g.eaten = eaten;
            g.blown = blown;
            g.minute = minute;
            g.z = z;
            return g;
        }

        Law law(String key) {
            Law last = null;
            for (Law l : laws) {
                last = l.key.equals(key) ? l : last;
            }
            return last;
        }

        int draw(int by) {
            z = z * 1103515245 + 12345;
            return (z >>> 8) % by;
        }

        Ground on(int n) {
            for (int i = 0; i < n; i++) {
                for (Mule m : mules) {
                    if (m.yard != 59) {
                        walk(m);
                    }
                }
                if (minute % 5 == 4) {
                    mules.forEach(m -> m.hole = Math.min(50, m.hole + rules[3]));
                }
                int picked = draw(60);
                int eats = Math.min(grains[picked], rules[0]);
                grains[picked] -= eats;
                eaten += eats;
                if (draw(100) < rules[1]) {
                    int from = draw(60);
                    int half = grains[from] / 2;
                    grains[from] -= half;
                    int to = from + rules[2];
                    if (to < 0 || to > 59) {
                        blown += half;
                    } else {
                        grains[to] += half;
                    }
                }
                minute++;
            }
            return this;
        }

        void walk(Mule m) {
            int f = Math.min(m.grain, m.leaks(this));
            int g = Math.min(m.goes(), 59 - m.yard);
            m.grain -= f;
            fallen += f;
            if (g == 0) {
                grains[m.yard] += f;
                return;
            }
            for (int y = m.yard; y < m.yard + g; y++) {
                grains[y] += f / g;
            }
            grains[m.yard] += f % g;
            m.yard += g;
        }

        int sum(int[] row) {
            int s = 0;
            for (int v : row) {
                s += v;
            }
            return s;
        }

        int load() {
            return mules.stream().mapToInt(m -> m.grain).sum();
        }
    }

    private Ground now = new Ground();
    private Ground image;
    private String tape = "";
    private final Object[] sheets = new Object[4];
    private final Object[] slots = new Object[5];
    private final List<Integer> waits = new ArrayList<>();

    private static boolean out(int v, int low, int high) {
        return v < low || v > high;
    }

    private boolean noMule(int m) {
        return out(m, 0, now.mules.size() - 1);
    }

    public int mule(int kind, int pace, int grain, int hole) {
        if (out(kind, 0, 5) || out(pace, 0, 9) || out(grain, 0, 9999) || out(hole, 0, 50)) {
            return BAD;
        }
        if (now.mules.size() == 8) {
            return FULL;
        }
        Mule m = ofKind(kind);
        m.pace = pace;
        m.grain = grain;
        m.hole = hole;
        now.mules.add(m);
        return now.mules.size() - 1;
    }

    public int told(int mule, int what) {
        if (noMule(mule) || out(what, 0, 7)) {
            return BAD;
        }
        Mule m = now.mules.get(mule);
        return new int[] {kindOf(m), m.pace, m.yard, m.grain, m.hole, m.leaks(now), m.goes(), m.worth()}[what];
    }

    public int as(int mule, int kind) {
        if (noMule(mule) || out(kind, 0, 5)) {
            return BAD;
        }
        Mule m = now.mules.get(mule);
        return KINDS.get(kind).isInstance(m) ? m.hole : KIND;
    }

    public int turns(int mule, int kind) {
        if (noMule(mule) || out(kind, 0, 5)) {
            return BAD;
        }
        return kindOf(now.mules.set(mule, now.mules.get(mule).as(kind)));
    }

    public int set(int mule, int what, int v) {
        if (noMule(mule) || out(what, 1, 4) || out(v, 0, new int[] {0, 9, 59, 9999, 50}[what])) {
            return BAD;
        }
        Mule m = now.mules.get(mule);
        int was = told(mule, what);
        m.pace = what == 1 ? v : m.pace;
        m.yard = what == 2 ? v : m.yard;
        m.grain = what == 3 ? v : m.grain;
        m.hole = what == 4 ? v : m.hole;
        return was;
    }

    public int rule(int what, int v) {
        if (out(what, 0, 3) || out(v, what == 2 ? -3 : 0, new int[] {99, 100, 3, 9}[what])) {
            return BAD;
        }
        int was = now.rules[what];
        now.rules[what] = v;
        return was;
    }

    public int yard(int yard, int what) {
        return out(yard, 0, 59) || out(what, 0, 1) ? BAD : (what == 0 ? now.grains : now.green)[yard];
    }

    public int sweep(int yard) {
        if (out(yard, 0, 59)) {
            return BAD;
        }
        int was = now.grains[yard];
        now.grains[yard] = 0;
        return was;
    }

    public int rain() {
        int before = now.sum(now.green);
        for (int i = 0; i < 60; i++) {
            now.green[i] += now.grains[i] / 10;
            now.grains[i] -= now.grains[i] / 10;
        }
        return now.sum(now.green) - before;
    }

    public int deal(int n) {
        if (out(n, 1, 8)) {
            return BAD;
        }
        int came = 0;
        while (came < n && now.mules.size() < 8) {
            Mule m = ofKind(now.draw(6));
            m.pace = 1 + now.draw(9);
            m.grain = now.draw(1000);
            m.hole = now.draw(30);
            now.mules.add(m);
            came++;
        }
        return came;
    }

    public int seed(int v) {
        int was = now.z;
        now.z = v;
        return was;
    }

    public int minutes(int n) {
        if (out(n, 1, 100)) {
            return BAD;
        }
        int was = now.fallen;
        for (int i = 0; i < n && now.minute < 9999; i++) {
            now.on(1);
        }
        return now.fallen - was;
    }

    public int way(int what) {
        if (out(what, 0, 6)) {
            return BAD;
        }
        int trail = 0;
        for (int from = 0; from < 60; from++) {
            int to = from;
            while (to < 60 && now.grains[to] >= 1) {
                to++;
            }
            trail = Math.max(trail, to - from);
        }
        return new int[] {now.sum(now.grains), now.sum(now.green), now.fallen, now.eaten, now.blown, now.load(),
            trail}[what];
    }

    public int behind(int n, int what) {
        if (out(n, 0, 100) || what < 0 || what >= 3 + now.mules.size()) {
            return BAD;
        }
        Ground g = now.copied().on(n);
        return what == 0 ? g.sum(g.grains) : what == 1 ? g.eaten : what == 2 ? g.blown : g.mules.get(what - 3).grain;
    }

    public int empty() {
        Ground g = now.copied();
        for (int n = 0; n <= 300; n++, g.on(1)) {
            if (g.mules.stream().allMatch(m -> m.grain == 0 || m.yard == 59)) {
                return n;
            }
        }
        return NONE;
    }

    public int thickest(int n, int what) {
        if (out(n, 0, 100) || out(what, 0, 1)) {
            return BAD;
        }
        Ground g = now.copied().on(n);
        int best = 59;
        for (int i = 58; i >= 0; i--) {
            best = g.grains[i] >= g.grains[best] ? i : best;
        }
        return what == 0 ? best : g.grains[best];
    }

    public int patch(int n, int what) {
        if (out(n, 1, 60) || out(what, 0, 1)) {
            return BAD;
        }
        int best = NONE;
        int most = NONE;
        for (int k = now.mules.size() - 1; k >= 0; k--) {
            Ground g = now.copied();
            g.mules.set(k, g.mules.get(k).as(1));
            int left = g.on(n).load();
            if (best == NONE || left >= most) {
                best = k;
                most = left;
            }
        }
        return what == 0 ? best : most;
    }

    public int pan(int pace, int n) {
        if (out(pace, 0, 9) || out(n, 1, 60)) {
            return BAD;
        }
        Ground g = now.copied();
        int taken = 0;
        for (int k = 1; k <= n; k++) {
            g.on(1);
            int y = Math.min(59, pace * k);
            taken += g.grains[y];
            g.grains[y] = 0;
        }
        return taken;
    }

    private static int places(Object row) {
        return row instanceof short[] s ? s.length : ((float[]) row).length;
    }

    private static Integer number(Object row, int k) {
        if (row instanceof short[] s) {
            return (int) s[k];
        }
        float f = ((float[]) row)[k];
        return Float.isNaN(f) ? null : (Integer) (int) f;
    }

    private static Object copied(Object row) {
        return row instanceof short[] s ? s.clone() : ((float[]) row).clone();
    }

    public int whose(int sheet, int n, int what) {
        if (out(sheet, 0, 3) || out(n, 0, 60) || out(what, 0, 1)) {
            return BAD;
        }
        Object row = sheets[sheet];
        if (row == null) {
            return NOTHING;
        }
        int best = NONE;
        int least = NONE;
        for (int m = now.mules.size() - 1; m >= 0; m--) {
            Ground g = now.copied();
            for (Mule other : g.mules) {
                other.hole = other == g.mules.get(m) ? other.hole : 0;
            }
            g.on(n);
            int together = 0;
            for (int k = 0; k < places(row); k++) {
                Integer v = number(row, k);
                together += v == null ? 0 : Math.abs(v - g.grains[k]);
            }
            if (best == NONE || together <= least) {
                best = m;
                least = together;
            }
        }
        return what == 0 ? best : least;
    }

    public int fee() {
        Law l = now.law("fee");
        return l == null ? now.eaten : l.gives(Map.of('e', now.eaten, 'b', now.blown));
    }

    public int fine(int mule) {
        if (noMule(mule)) {
            return BAD;
        }
        Mule m = now.mules.get(mule);
        Law l = now.law("fine");
        return l == null ? m.grain : l.gives(new HashMap<>(Map.of('g', m.grain, 'y', m.yard)));
    }

    public int feed(int a, int b, int c) {
        if (tape.length() > 84) {
            return FULL;
        }
        for (int v : new int[] {a, b, c}) {
            tape += "" + (char) (v >> 24 & 255) + (char) (v >> 16 & 255) + (char) (v >> 8 & 255) + (char) (v & 255);
        }
        return tape.length();
    }

    public int trim(int n) {
        if (out(n, 0, tape.length())) {
            return BAD;
        }
        tape = tape.substring(0, n);
        return n;
    }

    public int text() {
        String read = tape;
        tape = "";
        try {
            Law law = new Grammar(read).law();
            if (now.laws.size() == 14) {
                return FULL;
            }
            now.laws.add(law);
            return now.laws.size() - 1;
        } catch (Fault f) {
            return -100 - f.place;
        }
    }

    public int textTold(int text, int what) {
        if (out(text, 0, now.laws.size() - 1) || out(what, 0, 1)) {
            return BAD;
        }
        Law l = now.laws.get(text);
        return what == 0 ? List.of("leak", "fee", "fine").indexOf(l.key) : l.leaves;
    }

    public int why(int key) {
        if (out(key, 0, 2)) {
            return BAD;
        }
        Law l = now.law(List.of("leak", "fee", "fine").get(key));
        return l == null ? NONE : now.laws.indexOf(l);
    }

    public int sheet(int sheet, int sort, int n) {
        if (out(sheet, 0, 3) || out(sort, -1, 1) || sort != -1 && n > 24) {
            return BAD;
        }
        if (sort == -1) {
            sheets[sheet] = null;
            return 0;
        }
        if (n < 0) {
            return SIZE;
        }
        sheets[sheet] = sort == 0 ? new short[n] : new float[n];
        return n;
    }

    public int mark(int sheet, int place, int v) {
        if (out(sheet, 0, 3)) {
            return BAD;
        }
        Object row = sheets[sheet];
        if (row == null) {
            return NOTHING;
        }
        if (out(place, 0, places(row) - 1)) {
            return INDEX;
        }
        if (row instanceof short[] s) {
            if (v == NONE) {
                return KIND;
            }
            s[place] = (short) v;
            return 1;
        }
        if (v != NONE && out(v, -99999, 99999)) {
            return BAD;
        }
        ((float[]) row)[place] = v == NONE ? Float.NaN : v;
        return 1;
    }

    public int pour(int sheet) {
        if (out(sheet, 0, 3)) {
            return BAD;
        }
        Object row = sheets[sheet];
        if (row == null) {
            return NOTHING;
        }
        int otherwise = 0;
        for (int k = 0; k < Math.min(places(row), now.mules.size()); k++) {
            Integer v = number(row, k);
            int was = now.mules.get(k).hole;
            int is = v == null ? was : v < 0 ? 0 : v > 50 ? 50 : v;
            now.mules.get(k).hole = is;
            otherwise += was != is ? 1 : 0;
        }
        return otherwise;
    }

    public int reads(int sheet) {
        if (out(sheet, 0, 3)) {
            return BAD;
        }
        Object row = sheets[sheet];
        if (row == null) {
            return NOTHING;
        }
        for (int k = 0; k < places(row); k++) {
            Integer v = number(row, k);
            if (v != null && v != now.grains[k]) {
                return k;
            }
        }
        return NONE;
    }

    public int copy(int from, int place, int to, int at, int many) {
        if (out(from, 0, 3) || out(to, 0, 3)) {
            return BAD;
        }
        try {
            System.arraycopy(sheets[from], place, sheets[to], at, many);
            return many;
        } catch (NullPointerException e) {
            return NOTHING;
        } catch (ArrayStoreException e) {
            return KIND;
        } catch (IndexOutOfBoundsException e) {
            return INDEX;
        }
    }

    private static int thing(Object o) {
        return o == null ? 0 : o instanceof Mule ? 1 : o instanceof Integer ? 3 : 2;
    }

    public int lay(int slot, int thing, int k) {
        if (out(slot, 0, 4) || out(thing, 0, 3) || thing == 1 && noMule(k) || thing == 2 && out(k, 0, 3)) {
            return BAD;
        }
        if (thing == 2 && sheets[k] == null) {
            return NOTHING;
        }
        int was = thing(slots[slot]);
        if (thing == 1) {
            Mule m = now.mules.get(k);
            slots[slot] = m.as(kindOf(m));
        } else {
            slots[slot] = thing == 0 ? null : thing == 2 ? copied(sheets[k]) : (Object) k;
        }
        return was;
    }

    public int ask(int slot, int kind) {
        if (out(slot, 0, 4) || out(kind, 0, 5)) {
            return BAD;
        }
        Object o = slots[slot];
        return o == null ? NOTHING : KINDS.get(kind).isInstance(o) ? ((Mule) o).worth() : KIND;
    }

    public int item(int slot, int place) {
        if (out(slot, 0, 4)) {
            return BAD;
        }
        Object o = slots[slot];
        if (thing(o) != 2) {
            return o == null ? NOTHING : KIND;
        }
        if (out(place, 0, places(o) - 1)) {
            return INDEX;
        }
        Integer v = number(o, place);
        return v == null ? KIND : v;
    }

    public int rest(int slot, int n) {
        if (out(slot, 0, 4)) {
            return BAD;
        }
        Object o = slots[slot];
        if (!(o instanceof Integer v)) {
            return o == null ? NOTHING : KIND;
        }
        return n == 0 ? NO : (int) ((long) v - (long) v / n * n);
    }

    public int tell(int v) {
        if (waits.size() == 60) {
            return FULL;
        }
        waits.add(v);
        return waits.size();
    }

    public int check(int n) {
        List<Integer> told = new ArrayList<>(waits);
        waits.clear();
        if (out(n, 1, 30)) {
            return BAD;
        }
        if (image == null) {
            return NO;
        }
        List<Integer> right = new ArrayList<>();
        Ground g = image.copied();
        for (int i = 0; i < n && g.minute < 9999; i++) {
            g.on(1);
            right.add(g.sum(g.grains));
            right.add(g.eaten);
        }
        int same = 0;
        while (same < told.size() && same < right.size() && told.get(same).equals(right.get(same))) {
            same++;
        }
        return told.equals(right) ? 0 : 1 + same;
    }

    public int keep() {
        image = now.copied();
        return now.mules.size();
    }

    public int back() {
        if (image == null) {
            return NO;
        }
        now = image.copied();
        return now.mules.size();
    }

    public int count(int what) {
        if (out(what, 0, 9)) {
            return BAD;
        }
        return new int[] {now.mules.size(), now.minute, now.rules[0], now.rules[1], now.rules[2], now.rules[3],
            now.laws.size(), waits.size(), tape.length(), now.z}[what];
    }
}
