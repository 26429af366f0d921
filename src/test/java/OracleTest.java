import java.lang.reflect.Method;
import java.lang.reflect.Modifier;
import java.util.ArrayList;
import java.util.Arrays;
import java.util.Comparator;
import java.util.List;
import java.util.Random;

/** Runs of calls by lot, of 512 each, asked of BarleyLine and of the oracle; after each run all that can be told is compared. */
public final class OracleTest {
    private static final Dues d = new Dues("OracleTest");
    private static final int[] ODD = {-1, -2, Integer.MIN_VALUE, Integer.MAX_VALUE, -1000000005, 100000, -100000, 65536,
        1 << 30, 10000};

    private final Random lot;
    private final BarleyLine line = new BarleyLine();
    private final Oracle oracle = new Oracle();
    private final List<String> run = new ArrayList<>();
    private final Method[] calls;
    private int left = 512;
    private boolean same = true;

    private OracleTest(long seed, Method[] calls) {
        lot = new Random(seed);
        this.calls = calls;
    }

    public static void main(String[] args) throws Exception {
        int runs = args.length > 0 ? Integer.parseInt(args[0]) : 1500;
        List<Method> found = new ArrayList<>();
        for (Method m : BarleyLine.class.getDeclaredMethods()) {
            if (Modifier.isPublic(m.getModifiers())) {
                found.add(m);
            }
        }
        found.sort(Comparator.comparing(Method::getName));
        d.due("calls of the face", found.size(), 40);
        Method[] calls = found.toArray(new Method[0]);
        for (int seed = 0; seed < runs; seed++) {
            boolean same = new OracleTest(seed, calls).runs();
            d.holds("run " + seed, same);
            if (!same) {
                break;
            }
        }
        d.end();
    }

    private boolean runs() throws Exception {
        begin();
        while (left > 140 && same) {
            int what = lot.nextInt(10);
            if (what == 0) {
                tellText();
            } else if (what == 1) {
                checkRight();
            } else {
                byLot(calls[lot.nextInt(calls.length)]);
            }
        }
        compareAll();
        return same;
    }

    private void begin() throws Exception {
        for (int i = lot.nextInt(9); i > 0; i--) {
            both("mule", lot.nextInt(6), lot.nextInt(10), lot.nextInt(lot.nextBoolean() ? 200 : 10000), lot.nextInt(51));
        }
        both("seed", lot.nextInt());
        if (lot.nextInt(4) > 0) {
            both("rule", 0, lot.nextInt(100));
            both("rule", 1, lot.nextInt(101));
            both("rule", 2, lot.nextInt(7) - 3);
            both("rule", 3, lot.nextInt(10));
        }
        if (lot.nextInt(8) == 0) {
            for (int i = 0; i < 99; i++) {
                both("minutes", 100);
            }
            both("minutes", 60 + lot.nextInt(40));
        }
    }

    private void compareAll() throws Exception {
        for (int yard = 0; yard < 60; yard++) {
            both("yard", yard, lot.nextInt(2));
        }
        for (int mule = 0; mule < 8; mule++) {
            for (int what = 1; what < 6; what++) {
                both("told", mule, what);
            }
        }
        for (int what = 0; what < 10; what++) {
            both("count", what);
            both("way", what);
        }
    }

    /** A call of both, by its name. */
    private int both(String name, int... args) throws Exception {
        for (Method m : calls) {
            if (m.getName().equals(name)) {
                return both(m, args);
            }
        }
        throw new IllegalArgumentException(name);
    }

    private int both(Method call, int... args) throws Exception {
        if (!same) {
            return 0;
        }
        left--;
        Object[] boxed = Arrays.stream(args).boxed().toArray();
        Method other = Oracle.class.getDeclaredMethod(call.getName(), call.getParameterTypes());
        int got;
        int want = (Integer) other.invoke(oracle, boxed);
        try {
            got = (Integer) call.invoke(line, boxed);
        } catch (java.lang.reflect.InvocationTargetException e) {
            System.out.println("thrown: " + e.getCause());
            same = false;
            got = want;
        }
        run.add(call.getName() + Arrays.toString(args) + " -> " + got);
        same &= got == want;
        if (!same) {
            run.forEach(System.out::println);
            System.out.println("due was " + want);
        }
        return got;
    }

    private void byLot(Method call) throws Exception {
        int n = call.getParameterCount();
        int[] args = new int[n];
        for (int i = 0; i < n; i++) {
            args[i] = lot.nextInt(25) == 0 ? ODD[lot.nextInt(ODD.length)] : ordinary(call.getName(), i, args);
        }
        both(call, args);
    }

    private int ordinary(String name, int place, int[] before) {
        int mules = Math.max(1, oracle.count(0));
        switch (name + place) {
            case "told0": case "as0": case "turns0": case "set0": case "fine0": return lot.nextInt(mules + (lot.nextInt(9) == 0 ? 1 : 0));
            case "mule0": case "as1": case "turns1": case "ask1": return lot.nextInt(6);
            case "mule1": case "pan0": return lot.nextInt(10);
            case "mule2": return lot.nextInt(10000);
            case "mule3": return lot.nextInt(51);
            case "told1": return lot.nextInt(9);
            case "set1": return 1 + lot.nextInt(4);
            case "set2": return lot.nextInt(new int[] {1, 11, 61, 10001, 52}[Math.max(0, Math.min(4, before[1]))]);
            case "rule0": return lot.nextInt(4);
            case "rule1": return lot.nextInt(new int[] {101, 102, 8, 11}[Math.max(0, Math.min(3, before[0]))]) - (before[0] == 2 ? 3 : 0);
            case "yard0": case "sweep0": return lot.nextInt(61);
            case "deal0": return lot.nextInt(10);
            case "seed0": case "tell0": return lot.nextInt();
            case "minutes0": return lot.nextInt(4) == 0 ? lot.nextInt(102) : 1 + lot.nextInt(4);
            case "behind0": case "thickest0": return lot.nextInt(102);
            case "behind1": return lot.nextInt(4 + mules);
            case "patch0": case "pan1": case "whose1": return lot.nextInt(62);
            case "sheet0": case "mark0": case "pour0": case "reads0": case "whose0": case "copy0": case "copy2":
                return lot.nextInt(9) == 0 ? 3 : lot.nextInt(2);
            case "sheet1": return lot.nextInt(8) == 0 ? -1 : lot.nextInt(2);
            case "sheet2": return lot.nextInt(26);
            case "mark1": case "item1": return lot.nextInt(14);
            case "mark2": return lot.nextInt(5) == 0 ? -1000000005 : lot.nextInt(100) - 20;
            case "copy1": case "copy3": return lot.nextInt(12);
            case "copy4": return lot.nextInt(9);
            case "lay0": case "ask0": case "item0": case "rest0": return lot.nextInt(5);
            case "lay1": return lot.nextInt(4);
            case "lay2": return lot.nextInt(3);
            case "rest1": return lot.nextInt(21) - 10;
            case "check0": return lot.nextInt(32);
            case "count0": case "way0": return lot.nextInt(10);
            case "why0": return lot.nextInt(4);
            case "textTold0": return lot.nextInt(Math.max(1, oracle.count(6)));
            case "trim0": return lot.nextInt(3) == 0 ? 0 : lot.nextInt(97);
            default: return lot.nextInt(2);
        }
    }

    /** Numbers that are right, or right but for one, by what both will tell of the image. */
    private void checkRight() throws Exception {
        both("check", 0);
        both("keep");
        int n = 1 + lot.nextInt(6);
        int bound = Math.min(n, 9999 - oracle.count(1));
        int wrong = lot.nextInt(3) == 0 ? lot.nextInt(2 * n + 1) : -1;
        for (int i = 0; i < 2 * bound + (lot.nextInt(5) == 0 ? 1 : 0) - (lot.nextInt(5) == 0 ? 1 : 0); i++) {
            int right = oracle.behind(i / 2 + 1, i % 2);
            both("tell", i == wrong ? right + 1 : right);
        }
        if (lot.nextBoolean()) {
            both("minutes", 1 + lot.nextInt(3));
        }
        both("check", n);
    }

    private void tellText() throws Exception {
        String key = lot.nextInt(3) == 0 ? "fine" : lot.nextInt(3) == 0 ? "fee" : "leak";
        String names = key.equals("leak") ? "hpg" : key.equals("fee") ? "eb" : "gy";
        StringBuilder text = new StringBuilder();
        blank(text, 8);
        text.append(key).append(' ');
        e(text, names, 0, lot.nextInt(5));
        if (lot.nextInt(3) == 0) {
            mangle(text);
        }
        if (text.length() > 96) {
            text.setLength(96);
        }
        String bytes = text.toString();
        both("trim", 0);
        for (int at = 0; at < bytes.length(); at += 12) {
            both("feed", Dues.four(bytes, at), Dues.four(bytes, at + 4), Dues.four(bytes, at + 8));
        }
        both("trim", bytes.length());
        both("text");
        both("fee");
        both("fine", 0);
        both("told", 0, 5);
        for (int key0 = 0; key0 < 3; key0++) {
            both("why", key0);
        }
        both("textTold", Math.max(0, oracle.count(6) - 1), 1);
    }

    private void blank(StringBuilder text, int seldom) {
        while (lot.nextInt(seldom) == 0) {
            text.append(' ');
        }
    }

    private void e(StringBuilder text, String names, int level, int deep) {
        String[] signs = {"|", "&", "<=>", "+-", "*/"};
        if (level == 5) {
            piece(text, names, deep);
            return;
        }
        e(text, names, level + 1, deep);
        boolean more = lot.nextInt(4) == 0;
        while (more) {
            blank(text, 9);
            text.append(signs[level].charAt(lot.nextInt(signs[level].length())));
            blank(text, 9);
            e(text, names, level + 1, deep);
            more = level != 2 && lot.nextInt(4) == 0;
        }
    }

    private void piece(StringBuilder text, String names, int deep) {
        blank(text, 9);
        int what = lot.nextInt(deep > 0 ? 6 : 4);
        if (what < 2) {
            text.append(names.charAt(lot.nextInt(names.length())));
        } else if (what < 4) {
            text.append(lot.nextInt(lot.nextBoolean() ? 10 : 10000));
        } else if (what == 4) {
            text.append(Dues.many("!", lot.nextInt(20) == 0 ? 8 : 1));
            piece(text, names, deep - 1);
        } else {
            int many = lot.nextInt(20) == 0 ? 8 : 1;
            text.append(Dues.many("(", many));
            e(text, names, 0, deep - 1);
            text.append(Dues.many(")", many));
        }
    }

    private void mangle(StringBuilder text) {
        int at = lot.nextInt(text.length());
        String signs = "()!+-*/<=>&| hpgebyl0123459azA~";
        char sign = lot.nextInt(9) == 0 ? (char) lot.nextInt(256) : signs.charAt(lot.nextInt(signs.length()));
        switch (lot.nextInt(4)) {
            case 0: text.setCharAt(at, sign); break;
            case 1: text.insert(at, sign); break;
            case 2: text.deleteCharAt(at); break;
            default: text.setLength(at); break;
        }
    }
}
