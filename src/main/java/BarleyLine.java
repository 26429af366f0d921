import java.util.Arrays;

/**
 * Mules that carry leaking sacks over a pass, and the line of barley behind them.
 * The document (DOC.md) tells, as numbered promises, what each public call does and answers.
 */
public final class BarleyLine {
    public static final int BAD = -1000000001, NO = -1000000002, FULL = -1000000003, NONE = -1000000005,
            NOTHING = -1000000011, KIND = -1000000012, INDEX = -1000000013, SIZE = -1000000014;

    private static final int MOST_MULES = 8;
    private static final int YARDS = 60;
    private static final int LAST_YARD = 59;
    private static final int KINDS = 6;
    private static final int PATCHED = 1;
    private static final int SEWN = 3;
    private static final int TORN = 2;
    private static final int WET = 4;
    private static final int OATS = 5;
    private static final int MOST_PACE = 9;
    private static final int MOST_GRAIN = 9999;
    private static final int MOST_HOLE = 50;
    private static final int LAST_MINUTE = 9999;
    private static final int LONGEST_WAIT = 300;

    private static final int BIRDS = 0;
    private static final int GUST = 1;
    private static final int WIND = 2;
    private static final int THREAD = 3;
    private static final int RULES = 4;
    private static final int[] LEAST_OF_RULE = {0, 0, -3, 0};
    private static final int[] MOST_OF_RULE = {99, 100, 3, 9};

    private static final int LEAK = 0;
    private static final int FEE = 1;
    private static final int FINE = 2;
    private static final int KEYS = 3;
    private static final int MOST_TEXTS = 14;
    private static final int MOST_BYTES = 96;
    private static final int FAULT_AT_0 = -100;

    private static final int SHEETS = 4;
    private static final int MOST_PLACES = 24;
    private static final int MISSING = -1;
    private static final int SHORTS = 0;
    private static final int FLOATS = 1;
    private static final int MOST_OF_FLOATS = 99999;

    private static final int SLOTS = 5;
    private static final int HOLDS_NOTHING = 0;
    private static final int HOLDS_MULE = 1;
    private static final int HOLDS_SHEET = 2;
    private static final int HOLDS_NUMBER = 3;

    private static final int MOST_WAITING = 60;

    private final Text[] texts;
    private final Tape tape;
    private final TextReader reader;
    private final World now;
    private final World image;
    private final World thought;
    private final Sheet[] sheets;
    private final Slot[] slots;
    private final int[] waiting;
    private boolean hasImage;
    private int waitingMany;

    // All that calls will ever need is made here: no call makes an object.
    public BarleyLine() {
        texts = new Text[MOST_TEXTS];
        int[] stack = new int[MOST_BYTES];
        for (int i = 0; i < MOST_TEXTS; i++) {
            texts[i] = new Text(stack);
        }
        tape = new Tape();
        reader = new TextReader(tape, new Text(stack));
        now = new World(texts);
        image = new World(texts);
        thought = new World(texts);
        sheets = new Sheet[SHEETS];
        for (int i = 0; i < SHEETS; i++) {
            sheets[i] = new Sheet();
        }
        slots = new Slot[SLOTS];
        for (int i = 0; i < SLOTS; i++) {
            slots[i] = new Slot();
        }
        waiting = new int[MOST_WAITING];
    }

    // ---- mules, yards

    public int mule(int kind, int pace, int grain, int hole) {
        if (!isKind(kind) || !within(pace, 0, MOST_PACE)) {
            return BAD;
        }
        if (!within(grain, 0, MOST_GRAIN) || !within(hole, 0, MOST_HOLE)) {
            return BAD;
        }
        if (now.many >= MOST_MULES) {
            return FULL;
        }
        now.addMule(kind, pace, grain, hole);
        return now.many - 1;
    }

    public int told(int mule, int what) {
        if (!isMule(mule)) {
            return BAD;
        }
        Mule asked = now.mules[mule];
        switch (what) {
            case 0: return asked.kind;
            case 1: return asked.pace;
            case 2: return asked.yard;
            case 3: return asked.grain;
            case 4: return asked.hole;
            case 5: return now.leaksOf(asked);
            case 6: return asked.goes();
            case 7: return asked.worth();
            default: return BAD;
        }
    }

    public int as(int mule, int kind) {
        if (!isMule(mule) || !isKind(kind)) {
            return BAD;
        }
        Mule asked = now.mules[mule];
        return asked.isOf(kind) ? asked.hole : KIND;
    }

    public int turns(int mule, int kind) {
        if (!isMule(mule) || !isKind(kind)) {
            return BAD;
        }
        int was = now.mules[mule].kind;
        now.mules[mule].kind = kind;
        return was;
    }

    public int set(int mule, int what, int v) {
        if (!isMule(mule) || !fits(what, v)) {
            return BAD;
        }
        Mule changed = now.mules[mule];
        int was;
        switch (what) {
            case 1:
                was = changed.pace;
                changed.pace = v;
                return was;
            case 2:
                was = changed.yard;
                changed.yard = v;
                return was;
            case 3:
                was = changed.grain;
                changed.grain = v;
                return was;
            default:
                was = changed.hole;
                changed.hole = v;
                return was;
        }
    }

    public int rule(int what, int v) {
        if (!within(what, 0, RULES - 1) || !within(v, LEAST_OF_RULE[what], MOST_OF_RULE[what])) {
            return BAD;
        }
        int was = now.rules[what];
        now.rules[what] = v;
        return was;
    }

    public int yard(int yard, int what) {
        if (!isYard(yard) || !within(what, 0, 1)) {
            return BAD;
        }
        return what == 0 ? now.grains[yard] : now.green[yard];
    }

    public int sweep(int yard) {
        return isYard(yard) ? now.takeAll(yard) : BAD;
    }

    public int rain() {
        return now.sprout();
    }

    public int deal(int n) {
        if (!within(n, 1, MOST_MULES)) {
            return BAD;
        }
        int come = Math.min(n, MOST_MULES - now.many);
        for (int i = 0; i < come; i++) {
            now.drawMule();
        }
        return come;
    }

    public int seed(int v) {
        int was = now.z;
        now.z = v;
        return was;
    }

    // ---- minutes

    public int minutes(int n) {
        if (!within(n, 1, 100)) {
            return BAD;
        }
        int before = now.fallen;
        now.pass(now.roomFor(n));
        return now.fallen - before;
    }

    public int way(int what) {
        switch (what) {
            case 0: return sumOf(now.grains);
            case 1: return sumOf(now.green);
            case 2: return now.fallen;
            case 3: return now.eaten;
            case 4: return now.blown;
            case 5: return now.grainOfAll();
            case 6: return now.trail();
            default: return BAD;
        }
    }

    // ---- what will be

    public int behind(int n, int what) {
        if (!within(n, 0, 100) || !within(what, 0, 2 + now.many)) {
            return BAD;
        }
        thought.become(now);
        thought.pass(n);
        switch (what) {
            case 0: return sumOf(thought.grains);
            case 1: return thought.eaten;
            case 2: return thought.blown;
            default: return thought.mules[what - 3].grain;
        }
    }

    public int empty() {
        thought.become(now);
        for (int n = 0; n <= LONGEST_WAIT; n++) {
            if (thought.isThrough()) {
                return n;
            }
            thought.pass(1);
        }
        return NONE;
    }

    public int thickest(int n, int what) {
        if (!within(n, 0, 100) || !within(what, 0, 1)) {
            return BAD;
        }
        thought.become(now);
        thought.pass(n);
        int best = thought.fullestYard();
        return what == 0 ? best : thought.grains[best];
    }

    public int patch(int n, int what) {
        if (!within(n, 1, 60) || !within(what, 0, 1)) {
            return BAD;
        }
        if (now.many == 0) {
            return NONE;
        }
        int best = 0;
        int most = leftIfPatched(0, n);
        for (int k = 1; k < now.many; k++) {
            int left = leftIfPatched(k, n);
            if (left > most) {
                best = k;
                most = left;
            }
        }
        return what == 0 ? best : most;
    }

    public int pan(int pace, int n) {
        if (!within(pace, 0, MOST_PACE) || !within(n, 1, 60)) {
            return BAD;
        }
        thought.become(now);
        int taken = 0;
        for (int k = 1; k <= n; k++) {
            thought.pass(1);
            taken += thought.takeAll(Math.min(pace * k, LAST_YARD));
        }
        return taken;
    }

    public int whose(int sheet, int n, int what) {
        if (!isSheet(sheet) || !within(n, 0, 60) || !within(what, 0, 1)) {
            return BAD;
        }
        Sheet heaps = sheets[sheet];
        if (heaps.isMissing()) {
            return NOTHING;
        }
        if (now.many == 0) {
            return NONE;
        }
        int best = 0;
        int least = differenceIfAlone(0, n, heaps);
        for (int k = 1; k < now.many; k++) {
            int difference = differenceIfAlone(k, n, heaps);
            if (difference < least) {
                best = k;
                least = difference;
            }
        }
        return what == 0 ? best : least;
    }

    public int fee() {
        return now.given(FEE, now.eaten, now.eaten, now.blown, 0);
    }

    public int fine(int mule) {
        if (!isMule(mule)) {
            return BAD;
        }
        Mule asked = now.mules[mule];
        return now.given(FINE, asked.grain, asked.grain, asked.yard, 0);
    }

    // ---- texts

    public int feed(int a, int b, int c) {
        if (tape.size + 12 > MOST_BYTES) {
            return FULL;
        }
        tape.addBytesOf(a);
        tape.addBytesOf(b);
        tape.addBytesOf(c);
        return tape.size;
    }

    public int trim(int n) {
        if (!within(n, 0, tape.size)) {
            return BAD;
        }
        tape.size = n;
        return n;
    }

    public int text() {
        boolean isText = reader.readTape();
        tape.size = 0;
        if (!isText) {
            return FAULT_AT_0 - reader.start;
        }
        if (now.textsTold >= MOST_TEXTS) {
            return FULL;
        }
        int number = now.textsTold;
        texts[number].become(reader.draft);
        now.counting[reader.draft.key] = number;
        now.textsTold = number + 1;
        return number;
    }

    public int textTold(int text, int what) {
        if (!within(text, 0, now.textsTold - 1) || !within(what, 0, 1)) {
            return BAD;
        }
        return what == 0 ? texts[text].key : texts[text].leaves;
    }

    public int why(int key) {
        return within(key, 0, KEYS - 1) ? now.counting[key] : BAD;
    }

    // ---- sheets, slots

    public int sheet(int sheet, int sort, int n) {
        if (!isSheet(sheet) || !within(sort, MISSING, FLOATS)) {
            return BAD;
        }
        if (sort == MISSING) {
            sheets[sheet].begin(MISSING, 0);
            return 0;
        }
        if (n > MOST_PLACES) {
            return BAD;
        }
        if (n < 0) {
            return SIZE;
        }
        sheets[sheet].begin(sort, n);
        return n;
    }

    public int mark(int sheet, int place, int v) {
        if (!isSheet(sheet)) {
            return BAD;
        }
        Sheet marked = sheets[sheet];
        if (marked.isMissing()) {
            return NOTHING;
        }
        if (!marked.has(place)) {
            return INDEX;
        }
        if (marked.sort == SHORTS && v == NONE) {
            return KIND;
        }
        if (marked.sort == FLOATS && v != NONE && !within(v, -MOST_OF_FLOATS, MOST_OF_FLOATS)) {
            return BAD;
        }
        marked.places[place] = marked.sort == SHORTS ? (short) v : v;
        return 1;
    }

    public int pour(int sheet) {
        if (!isSheet(sheet)) {
            return BAD;
        }
        Sheet poured = sheets[sheet];
        if (poured.isMissing()) {
            return NOTHING;
        }
        int otherwise = 0;
        for (int i = 0; i < now.many; i++) {
            if (poured.hasNumber(i)) {
                int hole = held(poured.places[i], 0, MOST_HOLE);
                otherwise += hole == now.mules[i].hole ? 0 : 1;
                now.mules[i].hole = hole;
            }
        }
        return otherwise;
    }

    public int reads(int sheet) {
        if (!isSheet(sheet)) {
            return BAD;
        }
        Sheet read = sheets[sheet];
        if (read.isMissing()) {
            return NOTHING;
        }
        for (int i = 0; i < read.size; i++) {
            if (read.hasNumber(i) && read.places[i] != now.grains[i]) {
                return i;
            }
        }
        return NONE;
    }

    public int copy(int from, int place, int to, int at, int many) {
        if (!isSheet(from) || !isSheet(to)) {
            return BAD;
        }
        Sheet source = sheets[from];
        Sheet target = sheets[to];
        if (source.isMissing() || target.isMissing()) {
            return NOTHING;
        }
        if (source.sort != target.sort) {
            return KIND;
        }
        if (!source.hasRow(place, many) || !target.hasRow(at, many)) {
            return INDEX;
        }
        System.arraycopy(source.places, place, target.places, at, many);
        return many;
    }

    public int lay(int slot, int thing, int k) {
        if (!isSlot(slot) || !within(thing, HOLDS_NOTHING, HOLDS_NUMBER)) {
            return BAD;
        }
        if (thing == HOLDS_MULE && !isMule(k) || thing == HOLDS_SHEET && !isSheet(k)) {
            return BAD;
        }
        if (thing == HOLDS_SHEET && sheets[k].isMissing()) {
            return NOTHING;
        }
        Slot filled = slots[slot];
        int held = filled.thing;
        filled.thing = thing;
        if (thing == HOLDS_MULE) {
            filled.mule.become(now.mules[k]);
        } else if (thing == HOLDS_SHEET) {
            filled.sheet.become(sheets[k]);
        } else if (thing == HOLDS_NUMBER) {
            filled.number = k;
        }
        return held;
    }

    public int ask(int slot, int kind) {
        if (!isSlot(slot) || !isKind(kind)) {
            return BAD;
        }
        Slot asked = slots[slot];
        if (asked.thing == HOLDS_NOTHING) {
            return NOTHING;
        }
        if (asked.thing != HOLDS_MULE || !asked.mule.isOf(kind)) {
            return KIND;
        }
        return asked.mule.worth();
    }

    public int item(int slot, int place) {
        if (!isSlot(slot)) {
            return BAD;
        }
        Slot asked = slots[slot];
        if (asked.thing == HOLDS_NOTHING) {
            return NOTHING;
        }
        if (asked.thing != HOLDS_SHEET) {
            return KIND;
        }
        if (!asked.sheet.has(place)) {
            return INDEX;
        }
        return asked.sheet.hasNumber(place) ? asked.sheet.places[place] : KIND;
    }

    public int rest(int slot, int n) {
        if (!isSlot(slot)) {
            return BAD;
        }
        Slot asked = slots[slot];
        if (asked.thing == HOLDS_NOTHING) {
            return NOTHING;
        }
        if (asked.thing != HOLDS_NUMBER) {
            return KIND;
        }
        return n == 0 ? NO : asked.number % n;
    }

    // ---- rows, images

    public int tell(int v) {
        if (waitingMany >= MOST_WAITING) {
            return FULL;
        }
        waiting[waitingMany] = v;
        waitingMany++;
        return waitingMany;
    }

    public int check(int n) {
        int given = waitingMany;
        waitingMany = 0;
        if (!within(n, 1, 30)) {
            return BAD;
        }
        if (!hasImage) {
            return NO;
        }
        thought.become(image);
        int due = 2 * thought.roomFor(n);
        for (int i = 0; i < due; i++) {
            if (i % 2 == 0) {
                thought.pass(1);
            }
            int right = i % 2 == 0 ? sumOf(thought.grains) : thought.eaten;
            if (i >= given || waiting[i] != right) {
                return 1 + i;
            }
        }
        return given > due ? 1 + due : 0;
    }

    public int keep() {
        image.become(now);
        hasImage = true;
        return now.many;
    }

    public int back() {
        if (!hasImage) {
            return NO;
        }
        now.become(image);
        return now.many;
    }

    public int count(int what) {
        switch (what) {
            case 0: return now.many;
            case 1: return now.minute;
            case 2: return now.rules[BIRDS];
            case 3: return now.rules[GUST];
            case 4: return now.rules[WIND];
            case 5: return now.rules[THREAD];
            case 6: return now.textsTold;
            case 7: return waitingMany;
            case 8: return tape.size;
            case 9: return now.z;
            default: return BAD;
        }
    }

    // ---- what the calls share

    private boolean isMule(int mule) {
        return within(mule, 0, now.many - 1);
    }

    private static boolean isKind(int kind) {
        return within(kind, 0, KINDS - 1);
    }

    private static boolean isYard(int yard) {
        return within(yard, 0, LAST_YARD);
    }

    private static boolean isSheet(int sheet) {
        return within(sheet, 0, SHEETS - 1);
    }

    private static boolean isSlot(int slot) {
        return within(slot, 0, SLOTS - 1);
    }

    private static boolean fits(int what, int v) {
        switch (what) {
            case 1: return within(v, 0, MOST_PACE);
            case 2: return isYard(v);
            case 3: return within(v, 0, MOST_GRAIN);
            case 4: return within(v, 0, MOST_HOLE);
            default: return false;
        }
    }

    private static boolean within(int v, int least, int most) {
        return least <= v && v <= most;
    }

    private static int held(int v, int least, int most) {
        return Math.max(least, Math.min(v, most));
    }

    private static int sumOf(int[] row) {
        int sum = 0;
        for (int v : row) {
            sum += v;
        }
        return sum;
    }

    private int leftIfPatched(int mule, int n) {
        thought.become(now);
        thought.mules[mule].kind = PATCHED;
        thought.pass(n);
        return thought.grainOfAll();
    }

    private int differenceIfAlone(int mule, int n, Sheet heaps) {
        thought.become(now);
        for (int i = 0; i < thought.many; i++) {
            if (i != mule) {
                thought.mules[i].hole = 0;
            }
        }
        thought.pass(n);
        int difference = 0;
        for (int k = 0; k < heaps.size; k++) {
            if (heaps.hasNumber(k)) {
                difference += Math.abs(thought.grains[k] - heaps.places[k]);
            }
        }
        return difference;
    }

    private static final class Mule {
        // The kind right above each kind; MULE has none.
        private static final int[] ABOVE = {-1, 0, 0, 1, 2, 0};

        int kind;
        int pace;
        int yard;
        int grain;
        int hole;

        void become(Mule other) {
            kind = other.kind;
            pace = other.pace;
            yard = other.yard;
            grain = other.grain;
            hole = other.hole;
        }

        boolean isOf(int asked) {
            int above = kind;
            for (int i = 0; i < KINDS && isKind(above); i++) {
                if (above == asked) {
                    return true;
                }
                above = ABOVE[above];
            }
            return false;
        }

        int leaks(int asMule) {
            switch (kind) {
                case PATCHED: return asMule / 2;
                case SEWN: return Math.max(0, asMule / 2 - 2);
                case TORN: return 2 * asMule;
                case WET: return Math.max(0, 2 * asMule - 5);
                case OATS: return asMule + 1;
                default: return asMule;
            }
        }

        int goes() {
            switch (kind) {
                case SEWN: return pace + 1;
                case TORN: return Math.max(0, pace - 1);
                case WET: return Math.max(0, pace - 1) / 2;
                default: return pace;
            }
        }

        int worth() {
            int asMule = 9 * pace;
            switch (kind) {
                case PATCHED: return asMule + 6;
                case SEWN: return 2 * (asMule + 6);
                case TORN: return 99 - asMule;
                case WET: return 99 - asMule - 8;
                case OATS: return 4;
                default: return asMule;
            }
        }
    }

    /** All that an image keeps: it stands three times, as it is now, as it was kept, and as it is thought. */
    private static final class World {
        // Shared by all three: what an image knows is a first part of what now knows, and is never written over.
        final Text[] texts;
        final Mule[] mules;
        final int[] grains;
        final int[] green;
        final int[] rules;
        // For each KEY the number of the TEXT that counts, or NONE.
        final int[] counting;
        int many;
        int fallen;
        int eaten;
        int blown;
        int minute;
        int z;
        int textsTold;

        World(Text[] texts) {
            this.texts = texts;
            mules = new Mule[MOST_MULES];
            for (int i = 0; i < MOST_MULES; i++) {
                mules[i] = new Mule();
            }
            grains = new int[YARDS];
            green = new int[YARDS];
            rules = new int[RULES];
            counting = new int[KEYS];
            Arrays.fill(counting, NONE);
            z = 1;
        }

        void become(World other) {
            for (int i = 0; i < other.many; i++) {
                mules[i].become(other.mules[i]);
            }
            System.arraycopy(other.grains, 0, grains, 0, YARDS);
            System.arraycopy(other.green, 0, green, 0, YARDS);
            System.arraycopy(other.rules, 0, rules, 0, RULES);
            System.arraycopy(other.counting, 0, counting, 0, KEYS);
            many = other.many;
            fallen = other.fallen;
            eaten = other.eaten;
            blown = other.blown;
            minute = other.minute;
            z = other.z;
            textsTold = other.textsTold;
        }

        void addMule(int kind, int pace, int grain, int hole) {
            if (many >= MOST_MULES) {
                return;
            }
            Mule added = mules[many];
            added.kind = kind;
            added.pace = pace;
            added.yard = 0;
            added.grain = grain;
            added.hole = hole;
            many++;
        }

        void drawMule() {
            int kind = draw() % KINDS;
            int pace = 1 + draw() % 9;
            int grain = draw() % 1000;
            int hole = draw() % 30;
            addMule(kind, pace, grain, hole);
        }

        private int draw() {
            z = z * 1103515245 + 12345;
            return z >>> 8;
        }

        int leaksOf(Mule mule) {
            int gives = given(LEAK, mule.hole, mule.hole, mule.pace, mule.grain);
            return mule.leaks(held(gives, 0, 999));
        }

        /** What the TEXT that counts for a KEY gives by the values of its NAMES; without one, what stands for it. */
        int given(int key, int without, int first, int second, int third) {
            int law = counting[key];
            return within(law, 0, MOST_TEXTS - 1) ? texts[law].give(first, second, third) : without;
        }

        int roomFor(int n) {
            return Math.min(n, LAST_MINUTE - minute);
        }

        void pass(int n) {
            for (int passed = 0; passed < n; passed++) {
                for (int i = 0; i < many; i++) {
                    goOn(mules[i]);
                }
                if (minute % 5 == 4) {
                    widenHoles();
                }
                birdsEat();
                gustBlows();
                minute++;
            }
        }

        private void goOn(Mule mule) {
            int yard = mule.yard;
            if (yard < 0 || yard >= LAST_YARD) {
                return;
            }
            int falls = Math.min(leaksOf(mule), mule.grain);
            mule.grain -= falls;
            fallen += falls;
            int steps = Math.min(mule.goes(), LAST_YARD - yard);
            int each = steps > 0 ? falls / steps : 0;
            for (int i = 0; i < steps; i++) {
                grains[yard + i] += each;
            }
            grains[yard] += falls - each * steps;
            mule.yard = yard + steps;
        }

        private void widenHoles() {
            for (int i = 0; i < many; i++) {
                mules[i].hole = Math.min(MOST_HOLE, mules[i].hole + rules[THREAD]);
            }
        }

        private void birdsEat() {
            int yard = draw() % YARDS;
            int eats = Math.min(rules[BIRDS], grains[yard]);
            grains[yard] -= eats;
            eaten += eats;
        }

        private void gustBlows() {
            if (draw() % 100 >= rules[GUST]) {
                return;
            }
            int yard = draw() % YARDS;
            int goes = grains[yard] / 2;
            grains[yard] -= goes;
            int to = yard + rules[WIND];
            if (isYard(to)) {
                grains[to] += goes;
            } else {
                blown += goes;
            }
        }

        int sprout() {
            int sprouted = 0;
            for (int i = 0; i < YARDS; i++) {
                int tenth = grains[i] / 10;
                grains[i] -= tenth;
                green[i] += tenth;
                sprouted += tenth;
            }
            return sprouted;
        }

        int takeAll(int yard) {
            if (!isYard(yard)) {
                return 0;
            }
            int taken = grains[yard];
            grains[yard] = 0;
            return taken;
        }

        int grainOfAll() {
            int sum = 0;
            for (int i = 0; i < many; i++) {
                sum += mules[i].grain;
            }
            return sum;
        }

        int trail() {
            int longest = 0;
            int length = 0;
            for (int i = 0; i < YARDS; i++) {
                length = grains[i] > 0 ? length + 1 : 0;
                longest = Math.max(longest, length);
            }
            return longest;
        }

        int fullestYard() {
            int best = 0;
            for (int i = 1; i < YARDS; i++) {
                if (grains[i] > grains[best]) {
                    best = i;
                }
            }
            return best;
        }

        boolean isThrough() {
            for (int i = 0; i < many; i++) {
                if (mules[i].grain > 0 && mules[i].yard < LAST_YARD) {
                    return false;
                }
            }
            return true;
        }
    }

    /** A law, kept as steps that put values on a stack or work on the topmost ones. */
    private static final class Text {
        // Steps from 0 to 9999 are NUMBERS, steps below 0 are NAMES, steps from here on are signs.
        private static final int FIRST_SIGN = 10000;
        private static final int NOT = FIRST_SIGN + '!';

        final int[] steps;
        int many;
        int key;
        int leaves;
        // Shared by all texts, as only one is worked out at a time.
        private final int[] stack;

        Text(int[] stack) {
            steps = new int[MOST_BYTES];
            this.stack = stack;
        }

        void begin(int ofKey) {
            key = ofKey;
            many = 0;
            leaves = 0;
        }

        void become(Text other) {
            System.arraycopy(other.steps, 0, steps, 0, MOST_BYTES);
            many = other.many;
            key = other.key;
            leaves = other.leaves;
        }

        void addNumber(int number) {
            addStep(number);
            leaves++;
        }

        void addName(int name) {
            addStep(-1 - name);
            leaves++;
        }

        void addSign(int sign) {
            addStep(FIRST_SIGN + sign);
        }

        private void addStep(int step) {
            if (many < MOST_BYTES) {
                steps[many] = step;
                many++;
            }
        }

        int give(int first, int second, int third) {
            int top = -1;
            for (int i = 0; i < many && top < stack.length - 1; i++) {
                int step = steps[i];
                if (step < FIRST_SIGN) {
                    top++;
                    stack[top] = step >= 0 ? step : step == -1 ? first : step == -2 ? second : third;
                } else if (step == NOT && top >= 0) {
                    stack[top] = stack[top] == 0 ? 1 : 0;
                } else if (top >= 1) {
                    top--;
                    stack[top] = workOut(step - FIRST_SIGN, stack[top], stack[top + 1]);
                }
            }
            return top >= 0 ? stack[top] : 0;
        }

        private static int workOut(int sign, int left, int right) {
            switch (sign) {
                case '+': return left + right;
                case '-': return left - right;
                case '*': return left * right;
                case '/': return right == 0 ? 0 : left / right;
                case '<': return left < right ? 1 : 0;
                case '=': return left == right ? 1 : 0;
                case '>': return left > right ? 1 : 0;
                case '&': return left != 0 && right != 0 ? 1 : 0;
                default: return left != 0 || right != 0 ? 1 : 0;
            }
        }
    }

    private static final class Tape {
        final int[] bytes = new int[MOST_BYTES];
        int size;

        void addBytesOf(int number) {
            for (int shift = 24; shift >= 0 && size < MOST_BYTES; shift -= 8) {
                bytes[size] = number >>> shift & 255;
                size++;
            }
        }

        /** The byte at a place; -1, which is no byte, at the end. */
        int byteAt(int place) {
            return place >= 0 && place < size ? bytes[place] : -1;
        }
    }

    /** Reads the tape word by word; where it stops at what no text goes on with, start is the place of the fault. */
    private static final class TextReader {
        private static final int END = 0;
        private static final int SIGN = 1;
        private static final int LETTERS = 2;
        private static final int DIGITS = 3;
        private static final int WRONG = 4;
        private static final int MOST_DIGITS = 4;
        private static final int MOST_OPEN = 8;
        private static final int OR = 0;
        private static final int TEST = 2;
        private static final int PIECE = 5;

        final Text draft;
        int start;
        private final Tape tape;
        private int end;
        private int sort;

        TextReader(Tape tape, Text draft) {
            this.tape = tape;
            this.draft = draft;
        }

        boolean readTape() {
            end = 0;
            sort = SIGN;
            stepOn();
            return readKey() && readLevel(OR, 0, 0) && sort == END;
        }

        private boolean readKey() {
            for (int key = 0; key < KEYS; key++) {
                if (sort == LETTERS && spells(wordOf(key))) {
                    draft.begin(key);
                    stepOn();
                    return true;
                }
            }
            return false;
        }

        private boolean readLevel(int level, int open, int nots) {
            if (level >= PIECE) {
                return readPiece(open, nots);
            }
            if (!readLevel(level + 1, open, nots)) {
                return false;
            }
            int most = level == TEST ? 1 : MOST_BYTES;
            for (int i = 0; i < most && isOneOf(signsOf(level)); i++) {
                int sign = tape.byteAt(start);
                stepOn();
                if (!readLevel(level + 1, open, nots)) {
                    return false;
                }
                draft.addSign(sign);
            }
            return true;
        }

        private boolean readPiece(int open, int nots) {
            if (sort == DIGITS) {
                draft.addNumber(number());
                stepOn();
                return true;
            }
            if (sort == LETTERS) {
                return readName();
            }
            if (isOneOf("!")) {
                return readNot(open, nots);
            }
            return isOneOf("(") && readBrackets(open, nots);
        }

        private boolean readName() {
            int name = namesOf(draft.key).indexOf((char) tape.byteAt(start));
            if (end - start != 1 || name < 0) {
                return false;
            }
            draft.addName(name);
            stepOn();
            return true;
        }

        private boolean readNot(int open, int nots) {
            if (nots >= MOST_OPEN) {
                return false;
            }
            stepOn();
            if (!readPiece(open, nots + 1)) {
                return false;
            }
            draft.addSign('!');
            return true;
        }

        private boolean readBrackets(int open, int nots) {
            if (open >= MOST_OPEN) {
                return false;
            }
            stepOn();
            if (!readLevel(OR, open + 1, nots) || !isOneOf(")")) {
                return false;
            }
            stepOn();
            return true;
        }

        private void stepOn() {
            boolean behindWord = sort == LETTERS || sort == DIGITS;
            int left = end;
            start = left;
            while (start < tape.size && tape.byteAt(start) == ' ') {
                start++;
            }
            sort = sortOf(tape.byteAt(start));
            end = start < tape.size ? start + 1 : start;
            if (sort == SIGN || sort == END) {
                return;
            }
            while (end < tape.size && sortOf(tape.byteAt(end)) == sort) {
                end++;
            }
            boolean lacksBlank = behindWord && start == left;
            if (lacksBlank || sort == DIGITS && end - start > MOST_DIGITS) {
                sort = WRONG;
            }
        }

        private static int sortOf(int found) {
            if (found < 0) {
                return END;
            }
            if (within(found, 'a', 'z')) {
                return LETTERS;
            }
            return within(found, '0', '9') ? DIGITS : SIGN;
        }

        private boolean isOneOf(String signs) {
            return sort == SIGN && signs.indexOf((char) tape.byteAt(start)) >= 0;
        }

        private boolean spells(String word) {
            if (end - start != word.length()) {
                return false;
            }
            for (int i = 0; i < word.length(); i++) {
                if (tape.byteAt(start + i) != word.charAt(i)) {
                    return false;
                }
            }
            return true;
        }

        private int number() {
            int number = 0;
            for (int i = start; i < end; i++) {
                number = number * 10 + tape.byteAt(i) - '0';
            }
            return number;
        }

        private static String wordOf(int key) {
            switch (key) {
                case LEAK: return "leak";
                case FEE: return "fee";
                default: return "fine";
            }
        }

        // In the order in which a text is handed their values.
        private static String namesOf(int key) {
            switch (key) {
                case LEAK: return "hpg";
                case FEE: return "eb";
                default: return "gy";
            }
        }

        private static String signsOf(int level) {
            switch (level) {
                case 0: return "|";
                case 1: return "&";
                case 2: return "<=>";
                case 3: return "+-";
                default: return "*/";
            }
        }
    }

    /** A row of numbers; NONE stands for a place that is NO NUMBER, as no place can hold it otherwise. */
    private static final class Sheet {
        final int[] places = new int[MOST_PLACES];
        int sort = MISSING;
        int size;

        void begin(int newSort, int newSize) {
            sort = newSort;
            size = newSize;
            Arrays.fill(places, 0);
        }

        void become(Sheet other) {
            sort = other.sort;
            size = other.size;
            System.arraycopy(other.places, 0, places, 0, MOST_PLACES);
        }

        boolean isMissing() {
            return sort == MISSING;
        }

        boolean has(int place) {
            return within(place, 0, size - 1);
        }

        boolean hasNumber(int place) {
            return has(place) && places[place] != NONE;
        }

        boolean hasRow(int place, int many) {
            return many >= 0 && place >= 0 && place <= size && many <= size - place;
        }
    }

    private static final class Slot {
        final Mule mule = new Mule();
        final Sheet sheet = new Sheet();
        int thing;
        int number;
    }
}
