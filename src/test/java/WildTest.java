import java.lang.reflect.InvocationTargetException;
import java.lang.reflect.Method;
import java.util.ArrayList;
import java.util.LinkedHashMap;
import java.util.List;
import java.util.Map;
import java.util.Random;

/**
 * Runs of all calls with any arguments, fit and unfit, longer than an object is used for: none
 * throws, each answers one of the refusals that the document names for it or a number that it can
 * answer at all, and what BAD, NO and FULL answer has changed nothing. The seed is fixed.
 */
public final class WildTest {
    private static final int RUNS = 1000, CALLS = 600;

    /** Of each call: the least and the greatest answer, then its refusals that change nothing. */
    private static final String ANSWERS = "door 1 5 -4;way 1 99 -2;ford 1 1 -2 -3;stones 0 9 -2;mule 0 2 -2 -4;"
        + "lame 0 999 -2;load 0 9 -2 -4;ask 0 100 -2;drain 0 9 -2;put 1 20 -2;type 1 240 -2 -4;clear 0 240 -2;"
        + "fault -1 240 -2;day 0 48;run 0 5940 -2 -3;side -1 999 -10 -20;where 0 15 -2 -3;halves 0 1024 -2;"
        + "within -1 99 -2;hang -1 5 -10;line 1 5 -2 -3;unline 0 5;borne 0 1 -3;worst 0 990 -3;longer 0 495 -3;"
        + "stays 0 990 -5 -10 -20;best 0 990 -5 -10 -20;liftings -1 60 -3;fewest -1 243 -3;chance 1 1 -3;"
        + "keep 0 5 -5 -10 -20;alone 0 720 -5 -10 -20;part -1 1000000000000;image 1 1 -2;from 1 1 -2 -3;count 0 240 -2;"
        + "digest " + Long.MIN_VALUE + " " + Long.MAX_VALUE;

    private static final String[] WORDS = {"door;", "mule 300 20 9;", "mule 90 5 2;", "load 20 hard 0 1;",
        "load 18 soft 0 2;", "load 7 hard 1 2;", "load 9 soft 2 0;", "way 0 1 4;", "lame 0 1 30;", "ford 1;", "ask 0 50;",
        "drain 1 3;", "stones 0 9;", "hang 0 0 0;", "hang 1 0 1;", "hang 2 1 0;", "hang 3 0 0;", "take 0 0;", "over 0 1;",
        "swap 0 0 1 1;", "stone 0 1;", "drop 0 1;", "go 1;", "go 0;", "go 2;", "1234", "~", "heavy", " ; "};

    private static final int[] FAR = {Integer.MIN_VALUE, Integer.MAX_VALUE, -1000, -11, -3, -2, 6, 8, 9, 10, 11, 20, 21,
        31, 32, 63, 64, 99, 100, 101, 240, 241, 999, 1000, 1023, 1024, 65536};

    private static int wrong = 0;

    private static void fail(String what) {
        wrong++;
        if (wrong <= 10) System.out.println(what);
    }

    private static Map<String, long[]> allowed() {
        Map<String, long[]> all = new LinkedHashMap<>();
        for (String row : ANSWERS.split(";")) {
            String[] parts = row.split(" ");
            long[] numbers = new long[parts.length - 1];
            for (int i = 0; i < numbers.length; i++) numbers[i] = Long.parseLong(parts[i + 1]);
            all.put(parts[0], numbers);
        }
        return all;
    }

    private static boolean isRefusal(long[] row, long got) {
        for (int i = 2; i < row.length; i++) if (row[i] == got) return true;
        return false;
    }

    private static Object any(Random r, Class<?> type) {
        if (type == long.class) return r.nextLong();
        int k = r.nextInt(12);
        if (k == 0) return FAR[r.nextInt(FAR.length)];
        if (k == 1) return r.nextInt();
        if (k < 4) return r.nextInt(100);
        return r.nextInt(k < 8 ? 3 : 7) - (k == 8 ? 1 : 0);
    }

    private static void write(Random r, EvenSides x) {
        int text = r.nextInt(2);
        int from = text == 0 ? 0 : 13, many = r.nextInt(14);
        if (x.fault(text) >= 0) x.clear(text);
        for (int n = 0; n < many; n++) {
            String word = WORDS[from + r.nextInt(r.nextInt(40) == 0 ? WORDS.length - from : text == 0 ? 13 : 12)];
            for (int i = 0; i < word.length(); i++) x.type(text, word.charAt(i), 1);
        }
    }

    /** Something to do for the calls; wild ones alone would seldom hang a load. */
    private static void begin(Random r, EvenSides x) {
        for (int n = r.nextInt(6); n > 0; n--) x.door();
        for (int n = r.nextInt(4); n > 0; n--) x.mule(1 + r.nextInt(999), r.nextInt(40), r.nextInt(9));
        for (int n = r.nextInt(11); n > 0; n--) x.load(1 + r.nextInt(99), r.nextInt(2), r.nextInt(3) / 2, r.nextInt(6));
        for (int l = 0; l < 10; l++) {
            x.hang(l, r.nextInt(3), r.nextInt(2));
            x.ask(l, r.nextInt(101));
            x.drain(l, r.nextInt(10));
        }
        for (int n = r.nextInt(9); n > 0; n--) x.line(1 + r.nextInt(5));
    }

    private static void call(EvenSides x, Method m, Object[] args, long[] row) throws Exception {
        String told = m.getName() + List.of(args);
        long before = x.digest();
        long got;
        try {
            got = ((Number) m.invoke(x, args)).longValue();
        } catch (InvocationTargetException e) {
            fail(told + " threw " + e.getCause());
            return;
        }
        boolean refused = isRefusal(row, got);
        boolean dayRefused = m.getName().equals("day") && (got <= -10 && got >= -250 || got <= -1000 && got >= -1047);
        if (!refused && !dayRefused && (got < row[0] || got > row[1])) fail(told + " answered " + got);
        if ((refused || dayRefused) && x.digest() != before) fail(told + " answered " + got + " and changed something");
    }

    public static void main(String[] args) throws Exception {
        Map<String, long[]> allowed = allowed();
        List<Method> calls = new ArrayList<>();
        for (String name : allowed.keySet()) {
            for (Method m : EvenSides.class.getMethods()) if (m.getName().equals(name)) calls.add(m);
        }
        if (calls.size() != 37) fail(calls.size() + " calls were found");
        Random r = new Random(512);
        for (int run = 0; run < RUNS; run++) {
            EvenSides x = new EvenSides();
            for (int k = 0; k < CALLS; k++) {
                if (r.nextInt(12) == 0) write(r, x);
                if (x.count(2) == 0 && r.nextInt(4) == 0) begin(r, x);
                Method m = calls.get(r.nextInt(calls.size()));
                // A day that is told ends what was; it and an emptied text are rarer than the rest.
                if (m.getName().matches("day|clear|from|unline") && r.nextInt(8) != 0) continue;
                Object[] with = new Object[m.getParameterCount()];
                for (int i = 0; i < with.length; i++) with[i] = any(r, m.getParameterTypes()[i]);
                call(x, m, with, allowed.get(m.getName()));
            }
        }
        System.out.println(wrong == 0 ? "no call throws in " + RUNS + " wild runs" : wrong + " wild calls went wrong");
        if (wrong != 0) System.exit(1);
    }
}
