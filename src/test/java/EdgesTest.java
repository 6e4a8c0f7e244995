import java.util.ArrayList;
import java.util.List;
import java.util.function.Supplier;
import java.util.function.ToLongFunction;

/**
 * The document's sentences that name an edge, one by one: the last number that is as told and the
 * first that is not, on both ends; the empty and the full; that a refused call changes nothing.
 */
public final class EdgesTest {
    private static final int BIG = Integer.MAX_VALUE, LOW = Integer.MIN_VALUE;
    private static final int BAD = -2, NO = -3, FULL = -4, LOW_BAD = -10, LOW_NO = -20;

    private static int wrong = 0;
    private static String sentence = "";

    private interface Call {
        long of(EvenSides x, int v);
    }

    private static void due(String call, long got, long want) {
        if (got == want) return;
        wrong++;
        System.out.println("[" + sentence + "] " + call + " answered " + got + ", due is " + want);
    }

    private static void says(String words) {
        sentence = words;
    }

    // ---- objects to begin with

    /** Types a text, eight bytes a call. */
    private static EvenSides typed(EvenSides x, int text, String words) {
        for (int i = 0; i < words.length(); i += 8) {
            int n = Math.min(8, words.length() - i);
            long v = 0;
            for (int k = 0; k < n; k++) v = v << 8 | words.charAt(i + k);
            if (x.type(text, v, n) < 0) due("room for '" + words + "'", 0, 1);
        }
        return x;
    }

    private static EvenSides told(String day) {
        EvenSides x = typed(new EvenSides(), 0, day);
        int items = x.day();
        if (items < 0) due("day() of " + day, items, 0);
        return x;
    }

    private static EvenSides retyped(EvenSides x, int text, String words) {
        x.clear(text);
        return typed(x, text, words);
    }

    /** Codes and doors are given as figures. */
    private static EvenSides hung(String day, String codes, String doors) {
        EvenSides x = told(day);
        for (int l = 0; l < codes.length(); l++) {
            int code = codes.charAt(l) - '0';
            x.hang(l, code / 2, code % 2);
        }
        return lined(x, doors);
    }

    private static EvenSides lined(EvenSides x, String doors) {
        x.unline();
        for (int i = 0; i < doors.length(); i++) x.line(doors.charAt(i) - '0');
        return x;
    }

    private static String times(String words, int many) {
        return words.repeat(many);
    }

    private static final String RICH = "door;door;door;way 0 1 4;way 1 2 2;ford 2;stones 0 3;stones 3 1;"
        + "mule 60 5 3;mule 90 8 9;lame 1 0 50;load 20 hard 0 1;load 18 soft 0 2;load 7 hard 1 2;load 9 soft 0 3;"
        + "ask 0 40;drain 1 2;";

    /** Something of all there is; room for one more of each; both images are kept. */
    private static EvenSides rich() {
        EvenSides x = told("door;mule 5 5 5;load 3 hard 0 1;");
        x.image(0);
        retyped(x, 0, RICH);
        x.day();
        x.hang(1, 1, 1);
        x.line(3);
        x.image(1);
        x.hang(0, 0, 0);
        x.hang(1, 0, 1);
        x.hang(2, 1, 0);
        x.hang(3, 1, 1);
        x.put(0, 4);
        x.put(1, 3);
        lined(x, "21");
        typed(x, 1, "hang 0 0 0;hang 1 0 1;stone 0 1;go 1;take 0 0;go 3;take 0 1;");
        x.chance();
        return x;
    }

    private static EvenSides fullOfAll() {
        EvenSides x = rich();
        x.door();
        x.door();
        x.mule(7, 7, 7);
        for (int l = 4; l < 10; l++) x.load(3, 1, 0, 1);
        typed(x, 0, times(" ", 240 - x.count(4)));
        typed(x, 1, times(" ", 240 - x.count(5)));
        return x;
    }

    // ---- what is asked of them

    /** All that can be asked of an object, its images too: it is not used again behind this. */
    private static List<Long> answers(EvenSides x) {
        List<Long> all = new ArrayList<>();
        all.add(x.digest());
        for (int what = 0; what <= 5; what++) all.add((long) x.run(what));
        for (int t = 0; t < 2; t++) all.add((long) x.fault(t));
        for (int m = 0; m < 3; m++) {
            for (int s = 0; s < 2; s++) {
                for (int what = 0; what < 4; what++) all.add((long) x.side(m, s, what));
            }
            all.add((long) x.alone(m, 30, -1));
        }
        for (int l = 0; l < 10; l++) {
            all.add((long) x.where(l));
            all.add((long) x.halves(1 << l, 0));
            all.add((long) x.stays(l));
        }
        all.add((long) x.borne());
        all.add((long) x.worst());
        all.add((long) x.longer());
        for (int what = -1; what < 5; what++) all.add((long) x.best(what));
        all.add((long) x.liftings());
        all.add((long) x.fewest());
        all.add(x.part(0));
        all.add(x.part(1));
        all.add(x.digest());
        for (int i = 0; i < 2; i++) {
            all.add((long) x.from(i));
            all.add(x.digest());
        }
        return all;
    }

    /** A call that is refused: a twin that was not called answers all else alike. */
    private static void refused(Supplier<EvenSides> make, String call, ToLongFunction<EvenSides> c, long want) {
        EvenSides x = make.get();
        due(call, c.applyAsLong(x), want);
        boolean alike = answers(x).equals(answers(make.get()));
        due(call + " changes nothing", alike ? 1 : 0, 1);
    }

    /** A number of a call: the last ones that are as told, and the first that are not. */
    private static void range(Supplier<EvenSides> make, String call, Call c, int low, int high, long bad) {
        for (int v : new int[] {low, high}) {
            long got = c.of(make.get(), v);
            due(call + " with " + v + " (" + got + ") is taken", got >= -1 && got != bad ? 1 : 0, 1);
        }
        for (int v : new int[] {low - 1, high + 1, LOW, BIG}) {
            refused(make, call + " with " + v, x -> c.of(x, v), bad);
        }
    }

    private static void range(String call, Call c, int low, int high, long bad) {
        range(EdgesTest::rich, call, c, low, high, bad);
    }

    /** A number that is set: the call answers what it was. */
    private static void kept(String call, Call set, int first, int low, int high) {
        EvenSides x = rich();
        due(call + " at first", set.of(x, low), first);
        due(call + " as low as can be", set.of(x, high), low);
        due(call + " as high as can be", set.of(x, low), high);
    }

    // ---- 1 PLACES

    private static void aNewObject() {
        says("As told; no DOORS, MULES, LOADS.");
        EvenSides x = new EvenSides();
        for (int what = 0; what <= 5; what++) due("count(" + what + ")", x.count(what), 0);
        due("no door", x.ford(1), BAD);
        due("no mule", x.lame(0, 0, 1), BAD);
        due("no load", x.ask(0, 1), BAD);
        due("no way", x.way(0, 1, 1), BAD);
        due("no load goes from the house to it", x.load(1, 1, 0, 0), BAD);
        due("no load goes to a door", x.load(1, 1, 0, 1), BAD);
        due("no door for the line", x.line(1), BAD);
        due("no load to be hung", x.hang(0, -1, 0), LOW_BAD);
        due("the house has no stones", x.stones(0, 0), 0);
        due("part(0)", x.part(0), 0);
        due("part(1)", x.part(1), 1);
        due("put(0, 1)", x.put(0, 1), 5);
        due("put(1, 1)", x.put(1, 1), 2);
        refused(EvenSides::new, "from(0)", y -> y.from(0), NO);
        refused(EvenSides::new, "from(1)", y -> y.from(1), NO);
        emptyAnswers(new EvenSides());
    }

    /** Nothing to carry is carried evenly. */
    private static void emptyAnswers(EvenSides x) {
        due("borne()", x.borne(), 1);
        due("worst()", x.worst(), 0);
        due("longer()", x.longer(), 0);
        due("stays(NONE)", x.stays(-1), 0);
        due("stays(0)", x.stays(0), LOW_BAD);
        due("best(NONE)", x.best(-1), 0);
        due("best(10)", x.best(10), 0);
        due("best(0)", x.best(0), LOW_BAD);
        due("liftings()", x.liftings(), 0);
        due("fewest()", x.fewest(), 0);
        due("keep(0)", x.keep(0), LOW_BAD);
        due("chance()", x.chance(), 1);
        due("part(0)", x.part(0), 1);
        due("part(1)", x.part(1), 1);
        due("alone(0, 0, NONE)", x.alone(0, 0, -1), LOW_BAD);
        for (int what = 0; what <= 5; what++) due("run(" + what + ")", x.run(what), 0);
    }

    private static void doors() {
        says("0 the HOUSE, DOORS 1 .. 5, as they come. FULL: 5.");
        EvenSides x = new EvenSides();
        for (int d = 1; d <= 5; d++) {
            due("stones at " + d + ", that is not there", x.stones(d, 1), BAD);
            due("door()", x.door(), d);
            due("stones at " + d, x.stones(d, 1), 0);
            due("count(0)", x.count(0), d);
        }
        refused(EdgesTest::fullOfAll, "a sixth door", EvenSides::door, FULL);
        due("count(0)", fullOfAll().count(0), 5);

        says("MILES between two PLACES: 1 .. 99 (1 at first), either way. BAD: alike, too.");
        range("way(a, 1, 7)", (y, v) -> y.way(v, 1, 7), 0, 3, BAD);
        range("way(1, b, 7)", (y, v) -> y.way(1, v, 7), 0, 3, BAD);
        range("way(3, 0, miles)", (y, v) -> y.way(3, 0, v), 1, 99, BAD);
        kept("way(3, 0, miles)", (y, v) -> y.way(3, 0, v), 1, 1, 99);
        kept("way(0, 3, miles)", (y, v) -> y.way(0, 3, v), 1, 1, 99);
        for (int p = -1; p <= 4; p++) {
            int alike = p;
            refused(EdgesTest::rich, "way alike", y -> y.way(alike, alike, 7), BAD);
        }
        eitherWay();

        says("A DOOR may be behind a FORD. BAD; NO: it is so.");
        range("ford(door)", (y, v) -> y.ford(v), 1, 3, BAD);
        refused(EdgesTest::rich, "ford(2) again", y -> y.ford(2), NO);
        EvenSides fords = told(times("door;", 5));
        for (int d = 1; d <= 5; d++) {
            due("ford(" + d + ")", fords.ford(d), 1);
            due("ford(" + d + ") again", fords.ford(d), NO);
        }

        says("STONES at a PLACE: 0 .. 9 (0 at first).");
        range("stones(place, 4)", (y, v) -> y.stones(v, 4), 0, 3, BAD);
        range("stones(1, n)", (y, v) -> y.stones(1, v), 0, 9, BAD);
        kept("stones(1, n)", (y, v) -> y.stones(1, v), 0, 0, 9);
    }

    private static void eitherWay() {
        EvenSides x = told(times("door;", 5));
        for (int a = 0; a <= 5; a++) {
            for (int b = 0; b < a; b++) due("way at first", x.way(a, b, 10 * a + b), 1);
        }
        for (int a = 0; a <= 5; a++) {
            for (int b = 0; b < a; b++) due("way from the other", x.way(b, a, 1), 10 * a + b);
        }
        for (int a = 0; a <= 5; a++) {
            for (int b = 0; b < a; b++) due("way back again", x.way(a, b, 2), 1);
        }
    }

    private static void mules() {
        says("MULES 0 .. 2, as they come. FULL: 3.");
        EvenSides x = new EvenSides();
        for (int m = 0; m < 3; m++) {
            due("lame(" + m + ", ..), that is not there", x.lame(m, 0, 5), BAD);
            due("mule()", x.mule(5, 5, 5), m);
            due("count(1)", x.count(1), m + 1);
        }
        refused(EdgesTest::fullOfAll, "a fourth mule", y -> y.mule(5, 5, 5), FULL);
        refused(EdgesTest::fullOfAll, "a fourth mule, bad", y -> y.mule(1000, 5, 5), BAD);

        says("MOST (1 .. 999), EVEN (0 .. 99), LONG (0 .. 99 miles)");
        range("mule(most, 5, 5)", (y, v) -> y.mule(v, 5, 5), 1, 999, BAD);
        range("mule(5, even, 5)", (y, v) -> y.mule(5, v, 5), 0, 99, BAD);
        range("mule(5, 5, longest)", (y, v) -> y.mule(5, 5, v), 0, 99, BAD);
        EvenSides z = new EvenSides();
        z.mule(1, 0, 0);
        z.mule(999, 99, 99);
        due("as they were told", z.digest(), mix(0, 2, 0, 0, 0, 0, 0, 0,
            1, 0, 0, 999, 999, 999, 99, 99, 999, 999, 5, 2, 0, 1));

        says("two SIDES (0, 1) that bear 0 .. 999 each (999 at first)");
        range("lame(mule, 0, 5)", (y, v) -> y.lame(v, 0, 5), 0, 1, BAD);
        range("lame(0, side, 5)", (y, v) -> y.lame(0, v, 5), 0, 1, BAD);
        range("lame(0, 0, bears)", (y, v) -> y.lame(0, 0, v), 0, 999, BAD);
        for (int m = 0; m < 2; m++) {
            for (int s = 0; s < 2; s++) {
                int mule = m, side = s;
                int first = 2 * m + s == 2 ? 50 : 999;
                kept("lame(" + m + ", " + s + ", bears)", (y, v) -> y.lame(mule, side, v), first, 0, 999);
            }
        }
    }

    private static void loads() {
        says("LOADS 0 .. 9, as they come. FULL: 10.");
        EvenSides x = told("door;");
        for (int l = 0; l < 10; l++) {
            due("ask(" + l + ", ..), that is not there", x.ask(l, 5), BAD);
            due("load()", x.load(5, 1, 0, 1), l);
            due("count(2)", x.count(2), l + 1);
        }
        refused(EdgesTest::fullOfAll, "an eleventh load", y -> y.load(5, 1, 0, 1), FULL);
        refused(EdgesTest::fullOfAll, "an eleventh load, bad", y -> y.load(5, 1, 1, 1), BAD);

        says("WEIGHT (1 .. 99), HARD (1) or SOFT (0), FROM one PLACE TO another");
        range("load(weight, 1, 0, 1)", (y, v) -> y.load(v, 1, 0, 1), 1, 99, BAD);
        range("load(5, hard, 0, 1)", (y, v) -> y.load(5, v, 0, 1), 0, 1, BAD);
        range("load(5, 1, from, 1)", (y, v) -> y.load(5, 1, v, 1), 0, 3, BAD);
        range("load(5, 1, 1, to)", (y, v) -> y.load(5, 1, 1, v), 0, 3, BAD);
        for (int p = -1; p <= 4; p++) {
            int alike = p;
            refused(EdgesTest::rich, "load from and to alike", y -> y.load(5, 1, alike, alike), BAD);
        }
        EvenSides z = new EvenSides();
        z.door();
        z.load(1, 0, 1, 0);
        z.load(99, 1, 0, 1);
        due("as they were told", z.digest(), mix(1, 0, 2, 0, 0, 0, 0, 0, 1, 0, 0,
            1, 0, 1, 0, 100, 0, -1, 99, 1, 0, 1, 100, 0, -1, 5, 2, 0, 1));

        says("ASKED 0 .. 100 of 100 (100 at first)");
        range("ask(load, 5)", (y, v) -> y.ask(v, 5), 0, 3, BAD);
        range("ask(3, asked)", (y, v) -> y.ask(3, v), 0, 100, BAD);
        kept("ask(3, asked)", (y, v) -> y.ask(3, v), 100, 0, 100);

        says("DRAIN 0 .. 9 (0 at first)");
        range("drain(load, 5)", (y, v) -> y.drain(v, 5), 0, 3, BAD);
        range("drain(3, drain)", (y, v) -> y.drain(3, v), 0, 9, BAD);
        kept("drain(3, drain)", (y, v) -> y.drain(3, v), 0, 0, 9);
    }

    private static void drains() {
        says("behind k goings it weighs DRAIN k less, 0 at least");
        EvenSides x = told("door;mule 99 99 99;load 9 hard 0 1;load 20 hard 0 1;drain 0 4;");
        int[] weighs = {9, 5, 1, 0, 0, 0};
        for (int k = 0; k < weighs.length; k++) {
            String goings = times("go 1;go 0;", 3).substring(0, 5 * k);
            retyped(x, 1, "hang 0 0 0;hang 1 0 0;" + goings);
            due("behind " + k + " goings", x.side(0, 0, 0), 20 + weighs[k]);
        }
        retyped(x, 1, times("go 1;go 0;", 2) + "hang 0 0 0;");
        due("it runs out where it lies, too", x.side(0, 0, 0), 0);
        x.drain(0, 3);
        x.drain(1, 0);
        retyped(x, 1, "hang 0 0 0;" + times("go 1;go 0;", 1) + "go 1;");
        due("to 0 and no further", x.side(0, 0, 0), 0);
        x.drain(0, 9);
        retyped(x, 1, "hang 0 0 0;go 1;");
        due("at one going", x.side(0, 0, 0), 0);
        // On the legs of the line: alone on its side, it would weigh as much less than nothing.
        EvenSides y = hung(times("door;", 5) + "mule 99 99 9;load 9 hard 0 5;load 20 hard 0 5;drain 0 4;", "01", "12345");
        due("worst() against one that runs out", y.worst(), 20);
        y.drain(0, 0);
        due("worst() against one that does not", y.worst(), 11);
        y.drain(0, 9);
        y.drain(1, 9);
        due("worst(), drained", y.worst(), 11);
    }

    private static void numbers() {
        says("a STONE weighs 1 .. 20 (0: 5 at first); LIFT 1 .. 9 minutes (1: 2 at first)");
        range("put(what, 5)", (y, v) -> y.put(v, 5), 0, 1, BAD);
        range("put(0, v)", (y, v) -> y.put(0, v), 1, 20, BAD);
        range("put(1, v)", (y, v) -> y.put(1, v), 1, 9, BAD);
        EvenSides x = new EvenSides();
        due("put(0, 1)", x.put(0, 1), 5);
        due("put(1, 9)", x.put(1, 9), 2);
        due("put(0, 20)", x.put(0, 20), 1);
        due("put(0, 1)", x.put(0, 1), 20);
        due("put(1, 1)", x.put(1, 1), 9);
        due("put(1, 9)", x.put(1, 9), 1);
    }

    // ---- TEXTS

    private static void texts() {
        says("TEXTS 0, 1 (240 bytes at most each)");
        range("type(text, 32, 1)", (x, v) -> x.type(v, 32, 1), 0, 1, BAD);
        range("type(1, .., n)", (x, v) -> x.type(1, 0x2020202020202020L, v), 1, 8, BAD);
        range("clear(text)", (x, v) -> x.clear(v), 0, 1, BAD);
        range("fault(text)", (x, v) -> x.fault(v), 0, 1, BAD);
        for (int t = 0; t < 2; t++) {
            int text = t;
            for (int n = 1; n <= 8; n++) {
                int room = n;
                long blanks = 0x2020202020202020L;
                EvenSides x = typed(new EvenSides(), t, times(" ", 240 - n));
                due("type of " + n + " where " + n + " have room", x.type(t, blanks, n), 240);
                due("count", x.count(4 + t), 240);
                due("fault of 240 blanks", x.fault(t), -1);
                refused(() -> typed(rich240(text), text, times(" ", 241 - room)),
                    "type of " + n + " where " + (n - 1) + " have room", y -> y.type(text, blanks, room), FULL);
            }
            due("the other one has room", typed(new EvenSides(), t, times(" ", 240)).type(1 - t, 32, 1), 1);
        }
        refused(EdgesTest::fullOfAll, "bad and full", x -> x.type(0, 32, 9), BAD);
        refused(EdgesTest::fullOfAll, "bad and full", x -> x.type(0, 32, 0), BAD);
        refused(EdgesTest::fullOfAll, "bad and full", x -> x.type(2, 32, 8), BAD);

        says("The lowest n (1 .. 8) bytes of v, the highest of them first");
        long v = 0x8000ff7f20610a01L;
        for (int n = 1; n <= 8; n++) {
            EvenSides x = new EvenSides(), y = new EvenSides();
            due("type", x.type(0, v, n), n);
            for (int k = n - 1; k >= 0; k--) y.type(0, v >>> 8 * k, 1);
            due("byte by byte", y.digest(), x.digest());
        }
        EvenSides w = new EvenSides();
        w.type(1, v, 8);
        due("as told, 0 to 255", w.digest(), mix(0, 0, 0, 0, 0, 8, 0, 0, 5, 2,
            0x80, 0, 0xff, 0x7f, 0x20, 0x61, 0x0a, 1, 0, 1));

        says("A TEXT is empty: how many it had.");
        EvenSides x = fullOfAll();
        due("clear(0)", x.clear(0), 240);
        due("clear(0) again", x.clear(0), 0);
        due("count(5)", x.count(5), 240);
        due("clear(1)", x.clear(1), 240);
        due("fault(1)", x.fault(1), -1);
        due("type", x.type(1, 32, 1), 1);
    }

    private static EvenSides rich240(int text) {
        EvenSides x = rich();
        x.clear(text);
        return x;
    }

    private static void fault(int text, String words, int want) {
        due("fault(" + text + ") of '" + words + "'", typed(new EvenSides(), text, words).fault(text), want);
    }

    private static void tokens() {
        says("TOKENS: words of letters a .. z, figures, ; ; blanks (32) between");
        for (int b = 0; b < 256; b++) {
            boolean letter = b >= 'a' && b <= 'z', figure = b >= '0' && b <= '9';
            fault(0, "door" + (char) b + ";", b == ' ' ? -1 : letter ? 0 : b == ';' ? 5 : 4);
            fault(1, "go 1" + (char) b + "2;", b == ' ' || b == ';' ? 5 : figure ? -1 : 4);
            fault(1, (char) b + "", b == ' ' ? -1 : 0);
        }

        says("figures (1 to 3 are one number); a fourth figure's number");
        String[] places = {"mule # 1 1;", "mule 1 # 1;", "mule 1 1 #;"};
        for (int k = 0; k < 3; k++) {
            for (String number : new String[] {"0", "7", "00", "99", "000", "999"}) {
                fault(0, places[k].replace("#", number), -1);
            }
            for (String number : new String[] {"0000", "1234", "99999", times("1", 30)}) {
                fault(0, places[k].replace("#", number), 5 + 2 * k);
            }
        }
        fault(0, "mule 1 1 123 4;", 13);
        fault(0, "1234;", 0);
        fault(0, "door 1234;", 5);
        fault(0, "door; 1", 6);
        fault(1, "go 1234", 3);
        fault(1, "go 123", 6);

        says("FAULT: the place of the first byte of the first TOKEN that can not stand there");
        String[] day = {"mule", "door", "way", "lame", "ford", "ask", "drain", "stones"};
        int[] dayNumbers = {3, 0, 3, 3, 1, 2, 2, 2};
        for (int k = 0; k < day.length; k++) shapes(0, day[k], dayNumbers[k]);
        String[] acts = {"hang", "take", "over", "swap", "stone", "drop", "go"};
        int[] actNumbers = {3, 2, 2, 4, 2, 2, 1};
        for (int k = 0; k < acts.length; k++) shapes(1, acts[k], actNumbers[k]);
        for (String kind : new String[] {"hard", "soft"}) {
            fault(0, "load 1 " + kind + " 2 3;", -1);
            fault(0, "load 1 " + kind + " 2;", 13);
            fault(0, "load 1 " + kind + " 2 3 4;", 16);
            fault(0, "load " + kind + " 2 3;", 5);
            fault(0, "load 1 2 " + kind + " 3;", 7);
            fault(0, "load 1 " + kind + "s 2 3;", 7);
            fault(0, kind + ";", 0);
            fault(1, kind + ";", 0);
        }
        fault(0, "load 1 mule 2 3;", 7);
        fault(0, "door;door;;", 10);
        fault(0, "door door;", 5);
        fault(0, "door;Door;", 5);

        says("the text's length, if it ends too early");
        int[] ends = {-1, 0, 0, 0, 4, 5, 6, 7, 7, 7, 7, 11, 12, 13, 14, 15, -1, -1};
        for (int k = 0; k < ends.length; k++) fault(0, "load 4 soft 0 1; ".substring(0, k), ends[k]);
        int[] swapped = {-1, 0, 0, 0, 4, 5, 6, 7, 8, 9, 10, 11, 12, 13, -1};
        for (int k = 0; k < swapped.length; k++) fault(1, "swap 0 1 2 3 ;".substring(0, k), swapped[k]);
        fault(0, times("door;", 47) + "door ", 240);
        fault(0, times("door;", 48), -1);
        fault(1, times("go0;", 60), -1);
        fault(1, times("go0;", 59) + "go0 ", 240);
        fault(1, times("go0;", 59) + "go00", 240);
        fault(1, times("go0;", 59) + "gogo", 236);
        fault(1, times("go0;", 59) + "   ;", 239);
        // What was there before it was cleared is not read.
        due("figures behind it", retyped(typed(new EvenSides(), 1, "go 123;"), 1, "go 1").fault(1), 4);
        due("letters behind it", retyped(typed(new EvenSides(), 0, "doors;"), 0, "door").fault(0), 4);
        due("an end behind it", retyped(typed(new EvenSides(), 0, "door;"), 0, "door").fault(0), 4);
        fault(1, "go" + times(" ", 238), 240);
        fault(1, times(" ", 239) + ";", 239);
    }

    /** A WORD wants just so many numbers; in the other TEXT it is none. */
    private static void shapes(int text, String word, int numbers) {
        String right = word + times(" 0", numbers);
        fault(text, right + ";", -1);
        fault(text, right, right.length());
        fault(text, right + " 0;", right.length() + 1);
        fault(text, right + " " + word + ";", right.length() + 1);
        if (numbers > 0) fault(text, word + times(" 0", numbers - 1) + ";", right.length() - 2);
        fault(1 - text, right + ";", 0);
        fault(text, word + "x" + times(" 0", numbers) + ";", 0);
        fault(text, "x" + word.substring(1) + times(" 0", numbers) + ";", 0);
        fault(text, word.substring(1) + times(" 0", numbers) + ";", 0);
        fault(text, word.substring(0, word.length() - 1) + times(" 0", numbers) + ";", 0);
        fault(text, word.toUpperCase() + times(" 0", numbers) + ";", 0);
    }

    private static void days() {
        says("TEXT 0 tells a DAY");
        String[] right = {"mule 1 0 0;", "mule 999 99 99;", "load 1 soft 0 5;", "load 99 hard 5 0;", "way 0 5 1;",
            "way 5 0 99;", "lame 2 1 0;", "lame 0 0 999;", "ford 1;", "ford 5;", "ask 0 0;", "ask 9 100;", "drain 0 0;",
            "drain 9 9;", "stones 0 0;", "stones 5 9;"};
        for (String item : right) taken(item);
        String[] refused = {"mule 0 0 0;", "mule 1 100 0;", "mule 1 0 100;", "load 0 soft 0 1;", "load 100 hard 0 1;",
            "load 5 soft 6 1;", "load 5 soft 1 6;", "load 5 soft 5 5;", "way 0 6 1;", "way 6 0 1;", "way 3 3 1;",
            "way 0 1 0;", "way 0 1 100;", "lame 3 0 5;", "lame 0 2 5;", "ford 0;", "ford 6;", "ford 3;", "ask 10 5;",
            "ask 0 101;", "drain 10 5;", "drain 0 10;", "stones 6 1;", "stones 0 10;"};
        for (String item : refused) refusedItem(item);

        says("-1000 less the number of the first ITEM that is refused: nothing changes");
        refusedDay(times("door;", 6), -1005);
        refusedDay(times("door;", 48), -1005);
        refusedDay(times("mule 1 1 1;", 4), -1003);
        refusedDay("door;" + times("load1hard0 1;", 11), -1011);
        refusedDay("stones 1 1;door;", -1000);
        refusedDay("door;ford 1;ford 1;door;ford 9;", -1002);
        refusedDay("door;mule 1 1 1;ask 0 5;load 5 hard 0 1;", -1002);
        refusedDay("door;" + times("ask0 1;", 33), -1001);
        refusedDay("door;load 1 hard 0 1;lame 0 0 5;", -1002);

        says("-10 less the FAULT");
        refusedDay(";", -10);
        refusedDay("door;;", -15);
        refusedDay("door;door", -19);
        refusedDay(times("go0;", 60), -10);
        refusedDay(times(" ", 239) + "d", -249);
        refusedDay(times(" ", 236) + "door", -250);
        // A fault is found ahead of every item that would be refused.
        refusedDay("ford 1;ford", -21);

        says("It is told anew by these alone (NUMBERS stay; no HANGING, no LINE). The TEXT stays.");
        for (String day : new String[] {"", "   ", "door;", RICH}) {
            EvenSides x = retyped(rich(), 0, day);
            long above = x.part(0), below = x.part(1);
            due("day()", x.day(), day.chars().filter(c -> c == ';').count());
            due("count(3)", x.count(3), 0);
            due("count(4)", x.count(4), day.length());
            due("count(5)", x.count(5), rich().count(5));
            due("part(0) stays", x.part(0), above);
            due("part(1) stays", x.part(1), below);
            if (day.equals(RICH)) due("its code", x.hang(0, -1, 0), -1);
            due("put(0, 1)", x.put(0, 1), 4);
            due("put(1, 1)", x.put(1, 1), 3);
            due("from(1): images stay", x.from(1), 1);
            due("count(2)", x.count(2), 4);
        }
        // All that was told ahead is gone: the day is as that of a new object.
        EvenSides x = fullOfAll();
        for (int p = 0; p <= 5; p++) x.stones(p, 9);
        for (int d = 1; d <= 5; d++) x.ford(d);
        for (int d = 1; d <= 5; d++) x.way(0, d, 50);
        for (int m = 0; m < 3; m++) x.lame(m, m % 2, 7);
        for (int l = 0; l < 10; l++) {
            x.ask(l, 7);
            x.drain(l, 7);
            x.hang(l, 2, 1);
        }
        x.put(0, 5);
        x.put(1, 2);
        x.clear(1);
        retyped(x, 0, FULL_DAY);
        EvenSides y = told(FULL_DAY);
        due("day()", x.day(), 18);
        y.hang(0, 0, 0);
        x.hang(0, 0, 0);
        for (int l = 1; l < 10; l++) {
            due("no code", x.hang(l, 0, 0), -1);
            y.hang(l, 0, 0);
        }
        x.chance();
        y.chance();
        due("as of a new object", x.digest(), y.digest());
        retyped(x, 0, "");
        retyped(y, 0, "");
        due("day() of nothing", x.day(), 0);
        y.day();
        due("nothing is left", x.digest(), y.digest());
    }

    private static final String FULL_DAY = times("door;", 5) + "mule 9 9 9;mule 9 9 9;mule 9 9 9;"
        + times("load1hard0 1;", 10);

    /** An ITEM does as its call: the days are alike. */
    private static void taken(String item) {
        String ahead = item.startsWith("mule") || item.startsWith("load") ? times("door;", 5) : FULL_DAY;
        EvenSides x = told(ahead + item), y = told(ahead);
        String[] words = item.replace(";", "").split(" ");
        int[] n = new int[words.length];
        for (int k = 1; k < words.length; k++) {
            n[k] = words[k].equals("hard") ? 1 : words[k].equals("soft") ? 0 : Integer.parseInt(words[k]);
        }
        switch (words[0]) {
            case "mule" -> y.mule(n[1], n[2], n[3]);
            case "load" -> y.load(n[1], n[2], n[3], n[4]);
            case "way" -> y.way(n[1], n[2], n[3]);
            case "lame" -> y.lame(n[1], n[2], n[3]);
            case "ford" -> y.ford(n[1]);
            case "ask" -> y.ask(n[1], n[2]);
            case "drain" -> y.drain(n[1], n[2]);
            default -> y.stones(n[1], n[2]);
        }
        x.clear(0);
        y.clear(0);
        due("day() with " + item, x.digest(), y.digest());
    }

    private static void refusedItem(String item) {
        boolean makes = item.startsWith("mule") || item.startsWith("load");
        String ahead = makes ? times("door;", 5) : FULL_DAY;
        if (item.equals("ford 3;")) ahead += item;
        int items = (int) ahead.chars().filter(c -> c == ';').count();
        refusedDay(ahead + item, -1000 - items);
    }

    private static void refusedDay(String words, int want) {
        refused(() -> retyped(rich(), 0, words), "day() of " + words, EvenSides::day, want);
    }

    // ---- 2 ACTS

    /** What run(0) and run(1) answer: how many went right, and by what the next is WRONG. */
    private static EvenSides acts(String day, String acts, int right, int why) {
        EvenSides x = typed(told(day), 1, acts);
        due("run(0) of " + acts, x.run(0), right);
        due("run(1) of " + acts, x.run(1), why);
        return x;
    }

    private static final String TWO = "door;door;mule 99 99 99;mule 99 99 99;load 9 hard 0 1;load 8 soft 0 2;"
        + "load 7 hard 0 1;load 6 hard 1 0;stones 0 1;";

    private static void begins() {
        says("They begin in the HOUSE, with nothing on; each LOAD lies at FROM, all STONES at their PLACES.");
        EvenSides x = rich();
        retyped(x, 1, "");
        for (int what = 0; what <= 5; what++) due("run(" + what + ")", x.run(what), 0);
        int[] from = {0, 0, 1, 0};
        for (int l = 0; l < 4; l++) due("where(" + l + ")", x.where(l), from[l]);
        for (int code = 0; code < 4; code++) {
            due("bears", x.side(code / 2, code % 2, 0), 0);
            due("loads", x.side(code / 2, code % 2, 1), 0);
            due("top", x.side(code / 2, code % 2, 2), -1);
            due("stones", x.side(code / 2, code % 2, 3), 0);
        }
        // The acts are done anew for each question; what they move, they move for themselves.
        typed(x, 1, "take 0 0;");
        due("run(1)", x.run(1), 2);
        retyped(x, 1, "");
        due("run(1) of none", x.run(1), 0);
        retyped(x, 1, "stone 0 0;stone 0 0;stone 0 0;");
        for (int k = 0; k < 3; k++) due("run(0)", x.run(0), 3);
        due("stones(0, 3)", x.stones(0, 3), 3);
        typed(x, 1, "stone 0 0;");
        due("run(0)", x.run(0), 3);
        due("run(1)", x.run(1), 2);

        says("run: BAD; NO: a FAULT. side: BAD: -10; NO: -20. where: BAD; NO.");
        range("run(what)", (y, v) -> y.run(v), 0, 5, BAD);
        range("side(mule, 0, 0)", (y, v) -> y.side(v, 0, 0), 0, 1, LOW_BAD);
        range("side(0, side, 0)", (y, v) -> y.side(0, v, 0), 0, 1, LOW_BAD);
        range("side(0, 0, what)", (y, v) -> y.side(0, 0, v), 0, 3, LOW_BAD);
        range("where(load)", (y, v) -> y.where(v), 0, 3, BAD);
        Supplier<EvenSides> faulty = () -> typed(rich(), 1, "go");
        for (int what = 0; what <= 5; what++) {
            int asked = what;
            refused(faulty, "run(" + what + ") with a fault", y -> y.run(asked), NO);
        }
        refused(faulty, "run(6) with a fault", y -> y.run(6), BAD);
        refused(faulty, "run(-1) with a fault", y -> y.run(-1), BAD);
        for (int what = 0; what <= 3; what++) {
            int asked = what;
            refused(faulty, "side with a fault", y -> y.side(0, 0, asked), LOW_NO);
        }
        refused(faulty, "side(2, 0, 0) with a fault", y -> y.side(2, 0, 0), LOW_BAD);
        refused(faulty, "where with a fault", y -> y.where(0), NO);
        refused(faulty, "where(4) with a fault", y -> y.where(4), BAD);
        says("At the end of the ACTS: what a SIDE bears, how many LOADS, the top LOAD, STONES");
        int[][] sides = {{9, 1, 0, 0}, {5, 0, -1, 1}, {0, 0, -1, 0}, {15, 2, 1, 0}};
        EvenSides ends = typed(told(TWO), 1, "hang 0 0 0;stone 0 1;hang 2 1 1;hang 1 1 1;");
        for (int code = 0; code < 4; code++) {
            for (int what = 0; what < 4; what++) {
                due("side", ends.side(code / 2, code % 2, what), sides[code][what]);
            }
        }

        says("run: BAD; NO: a FAULT.");
        // A fault of the other text matters to none of them.
        due("run(0)", typed(rich(), 0, ";").run(0), 7);
    }

    private static void wrongOne() {
        says("1 there is no such LOAD, MULE, SIDE, PLACE (go: one is there; swap: it is the same SIDE)");
        acts(TWO, "hang 2 1 1;", 1, 0);
        acts(TWO, "hang 4 1 1;", 0, 1);
        acts(TWO, "hang 2 2 1;", 0, 1);
        acts(TWO, "hang 2 1 2;", 0, 1);
        for (String word : new String[] {"take", "over", "stone", "drop"}) {
            acts(TWO, word + " 2 0;", 0, 1);
            acts(TWO, word + " 0 2;", 0, 1);
            acts(TWO, word + " 999 999;", 0, 1);
        }
        acts(TWO, "hang 0 1 1;take 1 1;", 2, 0);
        acts(TWO, "hang 0 1 1;over 1 1;", 2, 0);
        acts(TWO, "stone 1 1;drop 1 1;", 2, 0);
        String[] swaps = {"swap 2 0 0 0;", "swap 0 2 1 0;", "swap 0 0 2 0;", "swap 0 0 1 2;", "swap 0 0 0 2;"};
        for (String swap : swaps) acts(TWO, "hang 0 0 0;" + swap, 1, 1);
        for (int code = 0; code < 4; code++) {
            String s = code / 2 + " " + code % 2;
            acts(TWO, "hang 0 " + s + ";swap " + s + " " + s + ";", 1, 1);
            acts(TWO, "swap " + s + " " + s + ";", 0, 1);
            for (int other = 0; other < 4; other++) {
                if (other == code) continue;
                EvenSides x = acts(TWO, "hang 0 " + s + ";swap " + s + " " + other / 2 + " " + other % 2 + ";", 2, 0);
                due("where(0)", x.where(0), 10 + other);
            }
        }
        acts(TWO, "go 2;", 1, 0);
        acts(TWO, "go 3;", 0, 1);
        acts(TWO, "go 999;", 0, 1);
        acts(TWO, "go 0;", 0, 1);
        acts(TWO, "go 2;go 2;", 1, 1);
        acts(TWO, "go 2;go 0;go 0;", 2, 1);
        acts("", "go 0;", 0, 1);
        acts("", "go 1;", 0, 1);
        acts("", "hang 0 0 0;", 0, 1);
    }

    private static void wrongTwo() {
        says("2 the LOAD or a STONE does not lie there, nothing is on that SIDE, no STONE");
        acts(TWO, "hang 3 0 0;", 0, 2);
        acts(TWO, "go 1;hang 3 0 0;", 2, 0);
        acts(TWO, "go 1;hang 0 0 0;", 1, 2);
        acts(TWO, "hang 0 0 0;hang 0 0 1;", 1, 2);
        acts(TWO, "hang 0 0 0;hang 0 0 0;", 1, 2);
        acts(TWO, "hang 0 0 0;go 1;take 0 0;go 0;hang 0 0 0;", 4, 2);
        acts(TWO, "hang 0 0 0;go 1;take 0 0;hang 0 1 0;", 4, 0);
        acts(TWO, "hang 0 0 0;take 0 1;", 1, 2);
        acts(TWO, "hang 0 0 0;take 1 0;", 1, 2);
        acts(TWO, "hang 0 0 0;take 0 0;take 0 0;", 2, 2);
        acts(TWO, "hang 0 0 0;over 0 1;", 1, 2);
        acts(TWO, "hang 0 0 0;swap 0 1 0 0;", 1, 2);
        acts(TWO, "stone 0 0;", 1, 0);
        acts(TWO, "stone 0 0;stone 0 0;", 1, 2);
        acts(TWO, "go 1;stone 0 0;", 1, 2);
        acts(TWO, "stone 0 0;go 1;drop 0 0;stone 1 1;", 4, 0);
        acts(TWO, "stone 0 0;go 1;drop 0 0;go 0;stone 1 1;", 4, 2);
        acts(TWO, "drop 0 0;", 0, 2);
        acts(TWO, "hang 0 0 0;drop 0 0;", 1, 2);
        acts(TWO, "stone 0 0;drop 0 1;", 1, 2);
        acts(TWO, "stone 0 0;drop 0 0;drop 0 0;", 2, 2);
        acts(TWO, "stone 0 0;take 0 0;", 1, 2);
        acts(TWO, "stone 0 0;over 0 0;", 1, 2);
        acts(TWO, "stone 0 0;swap 0 0 1 0;", 1, 2);
        // All nine, no tenth; what was dropped may be more than nine.
        String nine = "door;mule 999 99 99;stones 0 9;stones 1 9;";
        acts(nine, times("stone 0 0;", 9), 9, 0);
        acts(nine, times("stone 0 0;", 10), 9, 2);
        acts(nine, "stone 0 0;go 1;drop 0 0;" + times("stone 0 1;", 11), 13, 2);
    }

    private static void wrongThreeAndFour() {
        says("On each SIDE up to 3 LOADS lie. 3 three LOADS are there");
        String five = "door;mule 99 99 99;mule 99 99 99;stones 0 9;" + times("load1hard0 1;", 5);
        String three = "hang 0 0 0;hang 1 0 0;hang 2 0 0;";
        acts(five, three, 3, 0);
        acts(five, three + "hang 3 0 0;", 3, 3);
        acts(five, three + "hang 3 0 1;over 0 1;", 4, 3);
        acts(five, three + "hang 3 1 1;swap 1 1 0 0;", 4, 3);
        acts(five, three + "hang 3 0 1;swap 0 1 0 0;", 4, 3);
        acts(five, three + "take 0 0;hang 3 0 0;", 5, 0);
        acts(five, three + "over 0 0;hang 3 0 0;", 5, 0);
        acts(five, three + "hang 3 0 1;hang 4 0 1;over 0 0;", 6, 0);
        acts(five, "stone 0 0;stone 0 0;stone 0 0;" + three + "stone 0 0;", 7, 0);
        EvenSides x = acts(five, three + "hang 3 0 0;hang 4 0 1;", 3, 3);
        due("side(0, 0, 1)", x.side(0, 0, 1), 3);
        due("nothing behind it", x.side(0, 1, 1), 0);

        says("4 HARD on top of SOFT");
        String kinds = "door;mule 99 99 99;mule 99 99 99;load 1 hard 0 1;load 1 hard 0 1;load 1 soft 0 1;load 1 soft 0 1;";
        acts(kinds, "hang 0 0 0;hang 1 0 0;", 2, 0);
        acts(kinds, "hang 2 0 0;hang 3 0 0;", 2, 0);
        acts(kinds, "hang 0 0 0;hang 2 0 0;", 2, 0);
        acts(kinds, "hang 2 0 0;hang 0 0 0;", 1, 4);
        acts(kinds, "hang 0 0 0;hang 2 0 0;hang 1 0 0;", 2, 4);
        acts(kinds, "hang 2 0 0;hang 0 0 1;over 0 1;", 2, 4);
        acts(kinds, "hang 2 0 0;hang 0 0 1;over 0 0;", 3, 0);
        acts(kinds, "hang 2 0 0;hang 0 1 1;swap 1 1 0 0;", 2, 4);
        acts(kinds, "hang 2 0 0;hang 0 1 1;swap 0 0 1 1;", 3, 0);
        acts(kinds, "hang 2 0 0;take 0 0;hang 0 0 0;", 3, 0);
    }

    private static void wrongFive() {
        says("5 a SIDE would bear more than it does");
        String day = "door;mule 999 99 99;mule 999 99 99;lame 0 0 30;lame 1 1 30;load 10 hard 0 1;load 20 hard 0 1;"
            + "load 31 hard 0 1;load 30 hard 0 1;drain 2 1;stones 0 9;";
        acts(day, "hang 0 0 0;hang 1 0 0;", 2, 0);
        acts(day, "hang 3 0 0;", 1, 0);
        acts(day, "hang 2 0 0;", 0, 5);
        acts(day, "hang 2 0 1;", 1, 0);
        acts(day, "hang 2 1 1;", 0, 5);
        acts(day, "hang 3 0 0;hang 0 0 0;", 1, 5);
        acts(day, "hang 3 0 0;hang 0 0 1;", 2, 0);
        acts(day, "hang 3 0 1;over 0 1;", 2, 0);
        acts(day, "hang 2 0 1;over 0 1;", 1, 5);
        acts(day, "hang 3 0 1;swap 0 1 1 1;", 2, 0);
        acts(day, "hang 2 0 1;swap 0 1 1 1;", 1, 5);
        acts(day, "hang 2 0 1;swap 0 1 0 0;", 1, 5);
        acts(day, times("stone 0 0;", 6), 6, 0);
        acts(day, times("stone 0 0;", 7), 6, 5);
        acts(day, "hang 1 0 0;stone 0 0;stone 0 0;stone 0 0;", 3, 5);
        acts(day, "hang 1 0 0;stone 0 0;stone 0 0;drop 0 0;stone 0 0;", 5, 0);
        acts(day, "stone 0 0;hang 3 0 0;", 1, 5);
        // It has run out by one, and is borne then.
        acts(day, "go 1;go 0;hang 2 0 0;", 3, 0);
        acts("door;mule 9 9 9;lame 0 0 0;load 1 hard 0 1;drain 0 1;", "hang 0 0 0;", 0, 5);
        acts("door;mule 9 9 9;lame 0 0 0;load 1 hard 0 1;drain 0 1;", "go 1;go 0;hang 0 0 0;", 3, 0);
        acts("mule 9 9 9;lame 0 0 0;stones 0 1;", "stone 0 0;", 0, 5);

        says("5 the MULE more than MOST");
        String most = "door;mule 30 99 99;mule 30 99 99;load 10 hard 0 1;load 20 hard 0 1;load 31 hard 0 1;"
            + "load 30 hard 0 1;load 21 hard 0 1;stones 0 9;";
        acts(most, "hang 3 0 0;", 1, 0);
        acts(most, "hang 2 0 0;", 0, 5);
        acts(most, "hang 0 0 0;hang 1 0 1;", 2, 0);
        acts(most, "hang 0 0 0;hang 4 0 1;", 1, 5);
        acts(most, "hang 0 0 0;hang 4 0 0;", 1, 5);
        acts(most, "hang 0 0 0;hang 1 0 0;over 0 0;over 0 0;over 0 1;", 5, 0);
        acts(most, "hang 0 0 0;hang 1 0 1;swap 0 0 0 1;", 3, 0);
        acts(most, "hang 0 0 0;hang 1 1 1;swap 1 1 0 1;", 3, 0);
        acts(most, "hang 0 0 0;hang 4 1 1;swap 1 1 0 1;", 2, 5);
        acts(most, "hang 0 0 0;hang 4 1 1;swap 1 1 0 0;", 2, 5);
        acts(most, times("stone 0 0;stone 0 1;", 3), 6, 0);
        acts(most, times("stone 0 0;stone 0 1;", 3) + "stone 0 0;", 6, 5);
        acts(most, "hang 3 0 0;stone 0 1;", 1, 5);
        acts(most, "hang 3 0 0;hang 3 1 0;", 1, 2);
        acts(most, "hang 3 0 0;hang 0 1 0;", 2, 0);
        acts("door;mule 1 0 0;load 1 hard 0 1;load 2 hard 0 1;", "hang 1 0 0;", 0, 5);
        acts("door;mule 1 0 0;load 1 hard 0 1;load 2 hard 0 1;", "hang 0 0 0;", 1, 0);
    }

    private static void ran(EvenSides x, int... want) {
        for (int what = 0; what < want.length; what++) due("run(" + what + ")", x.run(what), want[what]);
    }

    private static void wrongSix() {
        says("6 UNEVEN above EVEN: it is SORE for one mile more");
        String even = "door;way 0 1 9;mule 99 5 0;load 5 hard 0 1;load 6 hard 0 1;load 11 hard 0 1;load 12 hard 0 1;stones 0 2;";
        ran(acts(even, "hang 0 0 0;go 1;", 2, 0), 2, 0, 9, 2, 1, 0);
        ran(acts(even, "hang 1 0 0;go 1;", 1, 6), 1, 6, 1, 2, 0, 0);
        acts(even, "hang 0 0 1;go 1;", 2, 0);
        acts(even, "hang 1 0 1;go 1;", 1, 6);
        acts(even, "hang 1 0 0;hang 2 0 1;go 1;", 3, 0);
        acts(even, "hang 1 0 0;hang 3 0 1;go 1;", 2, 6);
        acts(even, "stone 0 0;go 1;", 2, 0);
        acts(even, "stone 0 0;stone 0 0;go 1;", 2, 6);
        acts(even, "stone 0 0;stone 0 1;go 1;", 3, 0);
        acts(even, "hang 1 0 0;stone 0 1;go 1;", 3, 0);
        String hundred = "door;mule 999 99 0;load 99 hard 0 1;load 1 hard 0 1;";
        acts(hundred, "hang 0 0 0;go 1;", 2, 0);
        acts(hundred, "hang 0 0 0;hang 1 0 0;go 1;", 2, 6);
        acts("door;mule 9 0 0;load 1 hard 0 1;load 1 hard 0 1;", "hang 0 0 0;hang 1 0 1;go 1;", 3, 0);
        acts("door;mule 9 0 0;load 1 hard 0 1;load 1 hard 0 1;", "hang 0 0 0;go 1;", 1, 6);

        says("SORE for more than LONG: that mile is gone still, nothing behind it");
        String far = "door;way 0 1 #;mule 99 0 #;load 9 hard 0 1;drain 0 1;";
        for (int longest : new int[] {1, 2, 50, 98, 99}) {
            String day = far.replaceFirst("#", "" + longest).replaceFirst("#", "" + longest);
            ran(acts(day, "hang 0 0 0;go 1;", 2, 0), 2, 0, longest, 2, 1, 0);
            EvenSides x = acts(day, "hang 0 0 0;go 1;go 0;", 2, 6);
            ran(x, 2, 6, longest + 1, 2, 1, 0);
            due("it has run out by one going", x.side(0, 0, 0), 8);
            if (longest > 98) continue;
            day = far.replaceFirst("#", "" + (longest + 1)).replaceFirst("#", "" + longest);
            x = acts(day, "hang 0 0 0;go 1;take 0 0;", 1, 6);
            ran(x, 1, 6, longest + 1, 2, 0, 0);
            due("not arrived, not run out", x.side(0, 0, 0), 9);
            due("where(0)", x.where(0), 10);
        }
        ran(acts("door;way 0 1 99;mule 9 0 0;load 1 hard 0 1;", "hang 0 0 0;go 1;", 1, 6), 1, 6, 1, 2, 0, 0);

        says("else for none");
        String rest = "door;door;way 0 1 3;way 1 2 1;way 0 2 3;mule 99 0 3;load 5 hard 0 1;load 5 hard 1 2;";
        acts(rest, "hang 0 0 0;go 1;go 2;", 2, 6);
        ran(acts(rest, "hang 0 0 0;go 1;hang 1 0 1;go 2;take 0 1;go 0;", 6, 0), 6, 0, 7, 6, 0, 1);
        ran(acts(rest, "hang 0 0 0;go 1;hang 1 0 1;go 2;take 0 1;go 0;go 1;", 6, 6), 6, 6, 8, 6, 0, 1);
        acts(rest, "hang 0 0 0;go 1;take 0 0;hang 0 0 1;go 2;", 4, 6);

        says("of each MULE");
        String two = "door;way 0 1 3;mule 9 0 2;mule 9 0 3;load 1 hard 0 1;load 1 hard 0 1;";
        ran(acts(two, "hang 0 1 0;go 1;", 2, 0), 2, 0, 3, 2, 1, 0);
        ran(acts(two, "hang 0 0 0;go 1;", 1, 6), 1, 6, 3, 2, 0, 0);
        ran(acts(two, "hang 0 1 0;hang 1 0 0;go 1;", 2, 6), 2, 6, 3, 4, 0, 0);
        ran(acts(two, "hang 0 1 0;go 1;hang 1 0 0;", 2, 2), 2, 2, 3, 2, 1, 0);
        acts(two, "hang 0 0 1;hang 1 1 0;swap 0 1 1 1;go 1;", 4, 0);
        String three = "door;mule 9 0 0;mule 9 0 0;mule 9 0 0;" + times("load1hard0 1;", 6);
        for (int code = 0; code < 6; code++) {
            String all = "";
            for (int l = 0; l < 6; l++) all += "hang " + l + " " + l / 2 + " " + l % 2 + ";";
            acts(three, all + "go 1;", 7, 0);
            String one = code / 2 + " " + code % 2 + ";";
            acts(three, all + "take " + one + "go 1;", 7, 6);
            acts(three, "hang 0 " + one + "go 1;", 1, 6);
        }
    }

    private static void wrongSeven() {
        says("7 go to a DOOR behind a FORD with a SOFT LOAD lowest on a SIDE");
        String day = "door;door;ford 1;way 0 1 5;mule 99 99 99;mule 99 99 99;load 5 soft 0 1;load 5 hard 0 1;"
            + "load 5 soft 1 0;stones 0 1;";
        for (int code = 0; code < 4; code++) {
            String s = " " + code / 2 + " " + code % 2 + ";";
            ran(acts(day, "hang 0" + s + "go 1;", 1, 7), 1, 7, 0, 2, 0, 0);
            acts(day, "hang 0" + s + "go 2;", 2, 0);
            acts(day, "hang 0" + s + "go 2;go 1;", 2, 7);
            acts(day, "hang 1" + s + "go 1;", 2, 0);
            acts(day, "hang 1" + s + "hang 0" + s + "go 1;", 3, 0);
            acts(day, "hang 0" + s + "take" + s + "go 1;", 3, 0);
        }
        String three = day + "mule 99 99 99;";
        acts(three, "hang 1 0 0;hang 0 2 1;go 1;", 2, 7);
        acts(three, "hang 1 2 1;hang 0 2 1;go 1;", 3, 0);
        acts(day, "stone 0 0;go 1;", 2, 0);
        acts(day, "go 1;hang 2 0 0;go 0;", 3, 0);
        acts(day, "go 1;hang 2 0 0;go 2;", 3, 0);
        acts(day, "go 1;hang 2 0 0;go 2;go 1;", 3, 7);
        acts(day, "go 1;hang 2 0 0;go 0;go 1;", 3, 7);
        EvenSides x = acts(day, "hang 0 0 0;go 1;take 0 0;", 1, 7);
        due("nothing behind it", x.where(0), 10);
    }

    private static void theFirstOfThese() {
        says("WRONG is an act by the first of these");
        String day = "door;door;ford 1;mule 10 0 0;mule 99 99 99;lame 0 0 9;load 1 hard 0 1;load 1 hard 0 1;load 1 soft 0 1;"
            + "load 9 hard 0 1;load 1 soft 1 0;load 9 hard 1 0;load 1 soft 0 1;";
        acts(day, "swap 0 0 0 0;", 0, 1);
        acts(day, "swap 0 0 2 0;", 0, 1);
        acts(day, "hang 4 2 0;", 0, 1);
        String full = "hang 0 0 0;hang 1 0 0;hang 2 0 0;";
        acts(day, full + "hang 5 0 0;", 3, 2);
        acts(day, full + "swap 1 0 0 0;", 3, 2);
        acts(day, full + "over 0 1;", 3, 2);
        acts(day, full + "hang 3 0 0;", 3, 3);
        acts(day, "hang 2 0 0;hang 3 0 0;", 1, 4);
        acts(day, full + "hang 3 1 0;swap 1 0 0 0;", 4, 3);
        acts(day, "hang 2 0 0;hang 3 1 0;swap 1 0 0 0;", 2, 4);
        acts("door;mule 1 9 9;lame 0 0 0;", "stone 0 0;", 0, 2);
        acts("door;ford 1;mule 9 0 0;load 1 soft 1 0;", "go 1;hang 0 0 0;go 1;", 2, 1);
        ran(acts(day, "hang 2 0 0;go 1;", 1, 7), 1, 7, 0, 2, 0, 0);

        says("It ends with the first WRONG act (of which nothing else is done); else with the text.");
        ran(acts(TWO, "hang 0 0 0;go 1;hang 0 0 0;take 0 0;go 2;", 2, 2), 2, 2, 1, 2, 1, 0);
        ran(acts(TWO, "hang 0 0 0;go 1;take 0 0;go 2;", 4, 0), 4, 0, 2, 4, 2, 1);
        EvenSides most = typed(told("door;"), 1, times("go1;go0;", 30));
        ran(most, 60, 0, 60, 0, 0, 0);
        retyped(most, 1, times("go1;go0;", 29) + "go1;go1;");
        ran(most, 59, 1, 59, 0, 1, 0);

        says("MINUTES: LIFT for each act but go.");
        for (int lift : new int[] {1, 9}) {
            EvenSides x = typed(told(TWO), 1, "hang 0 0 0;over 0 0;swap 0 1 1 0;stone 0 0;drop 0 0;go 1;take 1 0;go 2;");
            x.put(1, lift);
            ran(x, 8, 0, 2, 6 * lift, 2, 1);
        }

        says("DONE: LOADS that lie at TO at the end.");
        due("on the mule at its door", acts(TWO, "hang 0 0 0;go 1;", 2, 0).run(5), 0);
        due("it lies there", acts(TWO, "hang 0 0 0;go 1;take 0 0;", 3, 0).run(5), 1);
        due("one is gone", acts(TWO, "hang 0 0 0;go 1;take 0 0;go 2;", 4, 0).run(5), 1);
        due("taken up again", acts(TWO, "hang 0 0 0;go 1;take 0 0;hang 0 1 1;", 4, 0).run(5), 0);
        due("at another door", acts(TWO, "hang 0 0 0;go 2;take 0 0;", 3, 0).run(5), 0);
        due("in the house", acts(TWO, "go 1;hang 3 0 0;go 0;take 0 0;", 4, 0).run(5), 1);
    }

    // ---- 3 HALVES

    private static void halves() {
        says("HALVES of some LOADS (1 to 10, as bits; WEIGHTS as told)");
        range("halves(loads, 0)", (x, v) -> x.halves(v, 0), 1, 15, BAD);
        range("halves(15, what)", (x, v) -> x.halves(15, v), 0, 2, BAD);
        range("within(loads, 99)", (x, v) -> x.within(v, 99), 1, 15, BAD);
        range("within(1, e)", (x, v) -> x.within(1, v), 0, 99, BAD);
        range(EdgesTest::fullOfAll, "halves(loads, 0)", (x, v) -> x.halves(v, 0), 1, 1023, BAD);
        range(EdgesTest::fullOfAll, "within(loads, 99)", (x, v) -> x.within(v, 99), 1, 1023, BAD);
        range(() -> told("door;load 5 hard 0 1;"), "halves(loads, 0)", (x, v) -> x.halves(v, 0), 1, 1, BAD);
        refused(EvenSides::new, "halves of no load", x -> x.halves(1, 0), BAD);
        refused(EvenSides::new, "within of no load", x -> x.within(1, 0), BAD);
        refused(EdgesTest::rich, "halves(16 + 1, 0)", x -> x.halves(17, 0), BAD);
        EvenSides x = told("door;load 5 hard 0 1;load 5 hard 0 1;load 99 hard 0 1;");
        int[][] want = {{1, 5, 2, 0}, {2, 5, 2, 0}, {3, 0, 2, 1}, {4, 99, 2, 0}, {5, 94, 2, 1}, {7, 89, 2, 3}};
        for (int[] w : want) {
            for (int what = 0; what < 3; what++) due("halves(" + w[0] + ")", x.halves(w[0], what), w[what + 1]);
        }
        x.drain(2, 9);
        retyped(x, 1, "go 1;");
        due("weights as told", x.halves(4, 0), 99);
        EvenSides ten = told("door;" + times("load9soft0 1;", 10));
        due("ten", ten.halves(1023, 0), 0);
        due("ten", ten.halves(1023, 1), 252);
        due("ten", ten.halves(1023, 2), 31);
        due("nine", ten.halves(1022, 0), 9);
        due("nine", ten.halves(1022, 1), 252);
        due("nine", ten.halves(1022, 2), 30);
        due("the tenth alone", ten.halves(512, 2), 0);
    }

    private static void within() {
        says("the fewest STONES (99 at most) laid on one SIDE besides, so that it is e at most. NONE: 99 do not do.");
        EvenSides x = told("door;load 99 hard 0 1;");
        x.put(0, 1);
        due("99 do", x.within(1, 0), 99);
        due("98 do", x.within(1, 1), 98);
        due("one does", x.within(1, 98), 1);
        due("none is needed", x.within(1, 99), 0);
        x.put(0, 2);
        due("never", x.within(1, 0), -1);
        due("49", x.within(1, 1), 49);
        x.put(0, 20);
        due("99 less 100 is 1", x.within(1, 1), 5);
        due("never", x.within(1, 0), -1);
        due("99 less 80 is 19", x.within(1, 19), 4);
        due("18", x.within(1, 18), 5);
        // Only with all on one side stones of 5 even 5 loads of 99: 495 are 99 stones.
        EvenSides five = told("door;" + times("load99hard0 1;", 5));
        due("five of 99", five.within(31, 0), 99);
        due("five of 99", five.within(31, 1), 20);
        EvenSides two = told("door;load 12 hard 0 1;load 3 hard 0 1;");
        due("15 less 15, ahead of 9 less 10", two.within(3, 0), 3);
        due("9 less 10", two.within(3, 1), 2);
        due("9 less 5", two.within(3, 4), 1);
        due("9", two.within(3, 9), 0);
        due("8", two.within(3, 8), 1);
    }

    // ---- the HANGING, THE LINE

    private static final String THREE = "door;door;door;way 0 1 3;way 1 2 4;way 2 3 5;way 0 3 20;";

    private static void hangingAndLine() {
        says("A LOAD of the HANGING (mule = NONE: none): its code ahead (NONE: none). BAD: -10.");
        range("hang(load, 0, 0)", (x, v) -> x.hang(v, 0, 0), 0, 3, LOW_BAD);
        range("hang(0, mule, 0)", (x, v) -> x.hang(0, v, 0), -1, 1, LOW_BAD);
        range("hang(0, 0, side)", (x, v) -> x.hang(0, 0, v), 0, 1, LOW_BAD);
        EvenSides x = told("door;mule 9 9 9;mule 9 9 9;mule 9 9 9;load 5 hard 0 1;");
        int ahead = -1;
        for (int code = 0; code < 6; code++) {
            due("hang", x.hang(0, code / 2, code % 2), ahead);
            ahead = code;
        }
        due("hang of the same", x.hang(0, 2, 1), 5);
        due("hang of none", x.hang(0, -1, 1), 5);
        due("hang of none again", x.hang(0, -1, 0), -1);
        due("hang", x.hang(0, 0, 0), -1);

        says("A DOOR comes to THE LINE: how many. BAD; NO: it is in it.");
        range(() -> lined(rich(), "2"), "line(door)", (y, v) -> y.line(v), 1, 3, BAD);
        refused(EdgesTest::rich, "line(2) again", y -> y.line(2), NO);
        refused(EdgesTest::rich, "line(1) again", y -> y.line(1), NO);
        Supplier<EvenSides> all = () -> lined(told(times("door;", 5)), "53142");
        for (int d = 1; d <= 5; d++) {
            int door = d;
            refused(all, "line of all", y -> y.line(door), NO);
        }
        refused(all, "line of all", y -> y.line(6), BAD);
        refused(all, "line of all", y -> y.line(0), BAD);
        EvenSides z = told(times("door;", 5));
        for (int d = 5; d >= 1; d--) due("line", z.line(d), 6 - d);
        due("count(3)", z.count(3), 5);
        due("unline()", z.unline(), 5);
        due("unline() again", z.unline(), 0);
        due("line(5)", z.line(5), 1);

        says("NO: a LOAD has no code.");
        for (int l = 0; l < 4; l++) {
            int none = l;
            Supplier<EvenSides> one = () -> {
                EvenSides y = rich();
                y.hang(none, -1, 0);
                return y;
            };
            refused(one, "borne()", EvenSides::borne, NO);
            refused(one, "worst()", EvenSides::worst, NO);
            refused(one, "longer()", EvenSides::longer, NO);
            refused(one, "liftings()", EvenSides::liftings, NO);
            refused(one, "fewest()", EvenSides::fewest, NO);
            refused(one, "chance()", EvenSides::chance, NO);
            for (int what = -1; what < 4; what++) {
                int asked = what;
                refused(one, "alone(0, 30, " + what + ")", y -> y.alone(0, 30, asked), LOW_NO);
            }
            refused(one, "alone(2, 30, NONE)", y -> y.alone(2, 30, -1), LOW_BAD);
            due("stays() looks at no code", one.get().stays(l), rich().stays(l));
            due("best() looks at no code", one.get().best(-1), rich().best(-1));
            due("keep() looks at no code", one.get().keep(l), rich().keep(l));
        }
    }

    private static int worst(String loads, String codes, String doors) {
        return hung(THREE + "mule 999 99 9;" + loads, codes, doors).worst();
    }

    private static void onAndOff() {
        says("A LOAD comes ON in the HOUSE, or at FROM, if a LEG is behind that");
        due("from the house", worst("load 5 hard 0 1;", "0", "1"), 5);
        due("no leg", worst("load 5 hard 0 1;", "0", ""), 0);
        due("from the last door", worst("load 5 hard 1 0;", "0", "1"), 0);
        due("from the last door", worst("load 5 hard 3 1;", "0", "123"), 0);
        due("from the last but one", worst("load 5 hard 2 1;", "0", "123"), 5);
        due("from the first", worst("load 5 hard 1 3;", "0", "123"), 5);
        due("from a door that is not in it", worst("load 5 hard 3 1;", "0", "12"), 0);
        due("from a door that is not in it to one that is", worst("load 5 hard 3 2;", "0", "12"), 0);

        says("it comes off at TO, if that is behind in THE LINE; it is ON on the LEGS between");
        int[][] miles = {{0, 1, 3}, {0, 2, 7}, {0, 3, 12}, {1, 2, 4}, {1, 3, 9}, {2, 3, 5}, {2, 1, 5}, {3, 1, 0},
            {1, 0, 9}, {2, 0, 5}, {3, 0, 0}, {3, 2, 0}};
        for (int[] m : miles) {
            String load = "load 5 hard " + m[0] + " " + m[1] + ";";
            EvenSides x = hung(THREE + "mule 9 4 9;" + load, "0", "123");
            due("longer() of " + load, x.longer(), m[2]);
            x = hung(THREE + "mule 9 5 9;" + load, "0", "123");
            due("longer(), even by 5, of " + load, x.longer(), 0);
        }
        due("to a door that is not in it", hung(THREE + "mule 9 4 9;load 5 hard 0 3;", "0", "12").longer(), 7);

        says("weighs there as behind so many goings as LEGS are ahead");
        EvenSides x = hung(THREE + "mule 99 9 9;load 20 hard 0 3;drain 0 9;", "0", "123");
        due("the first leg", x.worst(), 20);
        x = hung(THREE + "mule 99 9 9;load 20 hard 1 3;drain 0 9;", "0", "123");
        due("one leg is ahead", x.worst(), 11);
        due("on that leg alone", x.longer(), 4);
        x = hung(THREE + "mule 99 1 9;load 20 hard 2 3;drain 0 9;", "0", "123");
        due("two legs are ahead", x.worst(), 2);
        x.drain(0, 8);
        due("two legs are ahead", x.worst(), 4);
    }

    private static int borne(String day, String codes, String doors) {
        return hung(THREE + day, codes, doors).borne();
    }

    private static void borneOnes() {
        says("BORNE, if on each LEG each SIDE bears its LOADS, 3 at most, each MULE its MOST");
        String mule = "mule 40 99 9;lame 0 0 30;lame 0 1 20;";
        due("a side to its last", borne(mule + "load 20 hard 0 1;load 10 hard 0 1;", "00", "1"), 1);
        due("a side above", borne(mule + "load 21 hard 0 1;load 10 hard 0 1;", "00", "1"), 0);
        due("the other side to its last", borne(mule + "load 20 hard 0 1;", "1", "1"), 1);
        due("the other side above", borne(mule + "load 21 hard 0 1;", "1", "1"), 0);
        due("a mule to its last", borne(mule + "load 20 hard 0 1;load 20 hard 0 1;", "01", "1"), 1);
        due("a mule above", borne(mule + "load 21 hard 0 1;load 20 hard 0 1;", "01", "1"), 0);
        due("not at once", borne(mule + "load 30 hard 0 1;load 20 hard 1 2;", "01", "12"), 1);
        due("at once on the last leg", borne(mule + "load 30 hard 0 2;load 20 hard 1 2;", "01", "12"), 0);
        due("run out by then", borne(mule + "load 30 hard 0 2;load 14 hard 1 2;drain 0 4;", "01", "12"), 1);
        due("not run out by then", borne(mule + "load 30 hard 0 2;load 15 hard 1 2;drain 0 4;", "01", "12"), 0);
        due("never on", borne(mule + "load 99 hard 2 1;", "0", "12"), 1);
        due("no leg", borne(mule + "load 99 hard 0 1;", "0", ""), 1);
        String many = "mule 999 99 9;" + times("load1hard0 2;", 3);
        due("three", borne(many, "000", "12"), 1);
        due("a fourth", borne(many + "load1hard0 2;", "0000", "12"), 0);
        due("a fourth on the other side", borne(many + "load1hard0 2;", "0001", "12"), 1);
        due("a fourth on the second leg", borne(many + "load1hard1 2;", "0000", "12"), 0);
        due("a fourth behind them", borne(many + "load1hard2 3;", "0000", "123"), 1);
        due("a mule's second, not its first", borne("mule 1 1 1;mule 9 9 9;load 9 hard 0 1;", "2", "1"), 1);
        due("a mule's second, above", borne("mule 9 9 9;mule 8 9 9;load 9 hard 0 1;", "2", "1"), 0);

        says("WORST: the greatest UNEVEN of a MULE on a LEG.");
        due("two sides", worst("load 9 hard 0 1;load 4 hard 0 1;", "01", "1"), 5);
        due("two sides", worst("load 4 hard 0 1;load 9 hard 0 1;", "01", "1"), 5);
        due("one side", worst("load 4 hard 0 1;load 9 hard 0 1;", "11", "1"), 13);
        due("borne or not", worst(times("load99hard0 1;", 10), times("0", 10), "1"), 990);
        EvenSides x = hung(THREE + "mule 9 9 9;mule 9 9 9;mule 9 9 9;load 3 hard 0 1;load 4 hard 0 1;load 5 hard 0 1;", "024", "1");
        due("three mules", x.worst(), 5);

        says("LONGER: miles of LEGS on which some MULE is UNEVEN above its EVEN.");
        String two = "mule 9 3 9;mule 9 4 9;load 4 hard 0 3;load 4 hard 1 2;";
        due("the first", hung(THREE + two, "02", "123").longer(), 12);
        due("by just EVEN", hung(THREE + two, "22", "1").longer(), 0);
        due("a leg is counted once", hung(THREE + two + "load 5 hard 0 3;", "022", "123").longer(), 12);
        due("some mule", hung(THREE + two, "20", "123").longer(), 4);
    }

    private static EvenSides many(String mules, int loads, String doors) {
        return lined(told(THREE + mules + times("load4hard0 1;", loads)), doors);
    }

    private static void staysAndBest() {
        says("STAYS: if they are no more than 5000, BORNE or not; else NO. -5: none is BORNE.");
        range("stays(what)", (x, v) -> x.stays(v), -1, 3, LOW_BAD);
        String one = "mule 999 9 9;";
        int[][] want = {{1, 10, 1}, {2, 6, 1}, {2, 7, 0}, {2, 10, 0}, {3, 4, 1}, {3, 5, 0}, {3, 10, 0}};
        for (int[] w : want) {
            Supplier<EvenSides> make = () -> many(times(one, w[0]), w[1], "");
            int answer = w[2] == 1 ? 0 : LOW_NO;
            refused(make, "stays(NONE)", x -> x.stays(-1), answer);
            refused(make, "stays(0)", x -> x.stays(0), answer);
            refused(make, "stays of the last", x -> x.stays(w[1] - 1), answer);
            refused(make, "stays behind the last", x -> x.stays(w[1]), LOW_BAD);
            refused(make, "stays(-2)", x -> x.stays(-2), LOW_BAD);
            refused(make, "best(NONE)", x -> x.best(-1), answer);
            refused(make, "best(10)", x -> x.best(10), answer);
            refused(make, "best(0) of no line", x -> x.best(0), LOW_BAD);
            due("keep(0)", make.get().keep(0), answer);
            due("keep behind the last", make.get().keep(w[1]), LOW_BAD);
        }
        Supplier<EvenSides> seven = () -> many(one, 7, "1");
        for (int what = -1; what < 7; what++) {
            int asked = what;
            refused(seven, "stays of seven on two sides", x -> x.stays(asked), -5);
        }
        refused(seven, "best of seven on two sides", x -> x.best(-1), -5);
        refused(seven, "best of seven on two sides", x -> x.best(0), -5);
        refused(seven, "best of seven on two sides", x -> x.best(10), -5);
        refused(seven, "keep of seven on two sides", x -> x.keep(0), -5);
        refused(seven, "stays(7)", x -> x.stays(7), LOW_BAD);
        due("six on two sides", many(one, 6, "1").stays(-1), 0);
        Supplier<EvenSides> muleless = () -> many("", 10, "1");
        refused(muleless, "stays without a mule", x -> x.stays(-1), -5);
        refused(muleless, "best without a mule", x -> x.best(-1), -5);
        refused(muleless, "keep without a mule", x -> x.keep(0), -5);

        says("the one with the least WORST, of like ones the first row of codes");
        rows(many(one, 6, ""), "000000");
        rows(many(one, 6, "2"), "000111");
        rows(many(one, 4, "2"), "0011");
        rows(many(one + one, 4, "2"), "0011");
        String four = "load 9 hard 0 1;load 9 hard 0 1;load 5 hard 0 1;load 4 hard 0 1;";
        rows(lined(told(THREE + one + one + four), "1"), "0101");
        rows(lined(told(THREE + "mule 18 9 9;mule 18 9 9;" + four), "1"), "0123");
        rows(lined(told(THREE + "mule 8 9 9;mule 999 9 9;load 9 hard 0 1;load 9 hard 0 1;"), "1"), "23");
        rows(lined(told(THREE + one + "lame 0 0 8;load 9 hard 0 1;load 8 hard 0 1;"), "1"), "10");
        rows(lined(told(THREE + "mule 999 9 8;lame 0 0 8;load 9 hard 0 1;load 8 hard 0 1;"), "1"), "10");
        // Mules that differ in one number alone are not alike.
        String like = "mule 20 9 9;mule 20 9 9;", pair = "load 9 hard 0 1;load 9 hard 0 1;";
        rows(lined(told(THREE + like + pair), "1"), "01");
        rows(lined(told(THREE + like.replaceFirst("20", "17") + pair), "1"), "23");
        rows(lined(told(THREE + like + "lame 0 0 8;" + pair), "1"), "23");
        rows(lined(told(THREE + like + "lame 0 1 8;" + pair), "1"), "23");
        rows(lined(told(THREE + "mule 17 1 1;mule 20 9 9;lame 0 0 8;lame 0 1 7;" + pair), "1"), "23");
        EvenSides evens = lined(told(THREE + "mule 20 3 9;mule 20 5 9;load 5 hard 0 1;"), "1");
        due("keep(0), where the second may be less even", evens.keep(0), 2);
        due("stays(0)", evens.stays(0), 0);
        // A row that begins unevenly may end as the evenest; one by 1 may be followed by one by 0.
        String late = "load 2 hard 0 #;load 9 hard 0 #;load 3 hard 0 #;load 10 hard 0 #;";
        rows(lined(told(THREE + one + late.replace("#", "1")), "1"), "0110");
        rows(lined(told(THREE + one + late.replace("0 #", "1 2")), "12"), "0110");
        rows(lined(told(THREE + "mule 1 9 9;" + one + late.replace("0 #", "1 2")), "12"), "2332");
        rows(lined(told(THREE + "mule 10 9 9;mule 10 9 9;load5hard0 1;load4hard0 1;load5hard0 1;load4hard0 1;"), "1"), "0213");
        rows(lined(told(THREE + one + "load 5 hard 0 1;load 9 hard 2 3;load 5 hard 3 1;"), "1"), "000");
        EvenSides again = lined(told(THREE + one + late.replace("#", "1")), "1");
        due("keep(3), within 9", again.keep(3), 1);
        rows(again, "0110");
        EvenSides x = rich();
        String first = "";
        for (int l = 0; l < 4; l++) first += x.stays(l);
        due("the codes are not hung", x.hang(0, 0, 0), 0);
        due("they hang as told", x.worst(), rich().worst());
        EvenSides y = hung(RICH, first, "21");
        due("hung as it says, it is as it says", y.worst(), y.stays(-1));
        due("and borne", y.borne(), 1);
    }

    private static void rows(EvenSides x, String codes) {
        for (int l = 0; l < codes.length(); l++) {
            due("stays(" + l + ") of " + codes, x.stays(l), codes.charAt(l) - '0');
        }
    }

    private static void bestOnes() {
        says("BEST: WORST (what = NONE), the DOOR in place what (0 on), miles (what = 10). BAD: -10");
        range("best(what)", (x, v) -> x.best(v), -1, 1, LOW_BAD);
        for (int lined = 0; lined <= 5; lined++) {
            String doors = "54321".substring(0, lined);
            EvenSides x = lined(told(times("door;", 5)), doors);
            due("best(NONE)", x.best(-1), 0);
            for (int what = 0; what < 12; what++) {
                int want = what < lined ? 6 - lined + what : what == 10 ? lined : LOW_BAD;
                due("best(" + what + ") of " + lined, x.best(what), want);
            }
            due("THE LINE stays", x.unline(), lined);
        }

        says("of like ones the fewest miles, then the first row of DOORS");
        String ways = "way 0 1 9;way 0 2 2;way 0 3 2;way 1 2 3;way 1 3 3;way 2 3 5;";
        order("door;door;door;" + ways, "123", "213", 0, 8);
        order("door;door;door;" + ways.replace("0 3 2", "0 3 1"), "123", "312", 0, 7);
        order("door;door;door;" + ways.replace("0 2 2", "0 2 1"), "123", "213", 0, 7);
        // By WORST ahead of miles.
        String loads = "mule 99 9 9;load 9 hard 0 1;load 9 hard 0 2;load 9 hard 1 2;";
        order("door;door;way 0 1 9;way 1 2 9;" + loads, "21", "12", 0, 18);
        order("door;door;way 0 1 9;way 1 2 9;" + loads + "lame 0 1 0;", "12", "21", 18, 10);
        // A WORST that is greater by 1 is not outweighed by fewer miles.
        String drained = "mule 99 9 9;lame 0 1 0;load 9 hard 3 0;load 7 hard 0 3;drain 0 1;";
        order("door;door;door;way 0 1 9;way 0 2 9;way 1 3 9;" + drained, "321", "123", 7, 11);
        order("door;door;door;way 0 1 9;way 0 2 9;way 1 3 9;" + drained.replace("load 7", "load 8"), "123", "321", 8, 3);
        // The last of all orders.
        String back = times("door;", 5) + "way 0 5 1;way 5 4 1;way 4 3 1;way 3 2 1;way 2 1 1;way 0 1 2;way 0 2 2;"
            + "way 0 3 2;way 0 4 2;way 1 3 2;way 1 4 2;way 1 5 2;way 2 4 2;way 2 5 2;way 3 5 2;";
        order(back, "12345", "54321", 0, 5);
        EvenSides five = lined(told(times("door;", 5) + "mule 9 9 9;load 1 hard 0 5;load 1 hard 5 4;load 1 hard 4 3;"
            + "load 1 hard 3 2;load 1 hard 2 1;"), "12345");
        due("five doors", five.best(-1), 1);
    }

    private static void order(String day, String line, String want, int worst, int miles) {
        EvenSides x = lined(told(day), line);
        due("best(NONE) of " + day, x.best(-1), worst);
        due("best(10) of " + day, x.best(10), miles);
        for (int k = 0; k < want.length(); k++) due("best(" + k + ") of " + day, x.best(k), want.charAt(k) - '0');
    }

    private static void liftings(String day, String codes, String doors, int want) {
        due("liftings() of " + day, hung(THREE + "mule 1 0 0;mule 1 0 0;" + day, codes, doors).liftings(), want);
    }

    private static void layers() {
        says("a LIFTING is counted for it and for each one above it there; likewise for one that comes off");
        liftings("load 9 hard 0 1;", "0", "1", 2);
        liftings("load 9 hard 0 2;", "0", "1", 1);
        liftings("load 9 hard 1 2;", "0", "1", 0);
        liftings("load 9 hard 1 2;", "0", "12", 2);
        liftings("load 9 hard 0 1;load 9 hard 0 1;", "00", "1", 5);
        liftings("load 9 hard 0 1;load 9 hard 0 1;", "01", "1", 4);
        liftings("load 9 hard 0 1;load 9 hard 0 1;", "02", "1", 4);
        liftings("load 9 hard 0 1;load 9 hard 0 2;", "00", "12", 5);
        liftings("load 9 hard 0 1;load 9 hard 0 2;", "02", "12", 4);
        liftings("load 9 hard 0 2;load 9 hard 0 1;", "00", "12", 4);

        says("no HARD one lies next above a SOFT one");
        liftings("load 9 soft 0 2;load 9 soft 0 1;", "00", "12", 4);
        liftings("load 9 hard 0 2;load 9 soft 0 1;", "00", "12", 4);
        // The hard one must be below, whenever it comes on, and comes off from there.
        liftings("load 9 soft 0 2;load 9 hard 0 1;", "00", "12", 1 + 2 + 2 + 1);
        liftings("load 9 hard 0 1;load 9 soft 0 2;", "00", "12", 1 + 1 + 2 + 1);
        liftings("load 9 soft 0 3;load 9 hard 0 3;load 9 soft 0 3;", "000", "1", 1 + 2 + 1);
        liftings("load 9 hard 0 3;load 9 soft 0 3;load 9 hard 0 3;", "000", "1", 1 + 1 + 2);
        liftings("load 9 hard 0 3;load 9 soft 0 3;load 9 hard 0 1;", "000", "1", 1 + 1 + 2 + 2);
        liftings("load 9 soft 0 3;load 9 soft 0 3;load 9 hard 0 3;", "000", "1", 1 + 1 + 3);
        liftings("load 9 hard 0 3;load 9 hard 0 3;load 9 hard 0 3;", "000", "1", 3);
        liftings("load 9 hard 0 3;load 9 hard 0 3;load 9 soft 0 1;", "000", "1", 3 + 1);

        says("nor are there more than 3; none: it can not be. NONE.");
        liftings(times("load9hard0 1;", 3), "000", "1", 3 + 6);
        liftings(times("load9hard0 1;", 4), "0000", "1", -1);
        liftings(times("load9hard0 3;", 4), "0000", "1", -1);
        liftings(times("load9hard0 3;", 4), "0000", "", 0);
        liftings(times("load9hard0 1;", 4), "0001", "1", 3 + 6 + 2);
        liftings(times("load9hard0 2;", 3) + "load9hard1 2;", "0000", "12", -1);
        liftings(times("load9hard0 2;", 3) + "load9hard1 2;", "3333", "12", -1);
        liftings(times("load9hard0 2;", 3) + "load9hard2 3;", "0000", "12", 3 + 6);

        says("those that come off first");
        liftings("load9hard1 2;" + times("load9hard0 1;", 3), "0000", "12", 3 + 6 + 1 + 1);
        liftings(times("load9hard0 1;", 3) + "load9hard1 2;", "0000", "12", 3 + 6 + 1 + 1);
        // Ten through one side, three at once.
        String ten = "";
        for (int l = 0; l < 10; l++) ten += "load1hard" + (9 - l) / 2 + " " + ((9 - l) / 2 + 1) + ";";
        due("ten", hung(times("door;", 5) + "mule 1 0 0;" + ten, times("0", 10), "12345").liftings(), 5 * (2 + 3));
        // The heavy, the uneven are not looked at.
        liftings(times("load99hard0 1;", 3), "000", "1", 3 + 6);
    }

    private static int fewest(String day, String codes, String doors, int stone) {
        EvenSides x = hung(THREE + day, codes, doors);
        x.put(0, stone);
        return x.fewest();
    }

    private static void fewestStones() {
        says("STONES (9 at most, on one SIDE) so that it is UNEVEN by EVEN at most; none: it can not be");
        for (int stone : new int[] {1, 2, 10}) {
            String nine = "mule 9 0 9;load " + 9 * stone + " hard 0 1;";
            due("nine do", fewest(nine, "0", "1", stone), 9);
            due("nine do", fewest(nine, "1", "1", stone), 9);
            String ten = "mule 9 0 9;load " + (9 * stone + 1) + " hard 0 1;";
            due("nine do not", fewest(ten, "0", "1", stone), -1);
            due("nine do not", fewest(ten, "1", "1", stone), -1);
            due("nine do with one", fewest(ten.replace("9 0 9", "9 1 9"), "0", "1", stone), 9);
        }
        due("just even", fewest("mule 9 5 9;load 5 hard 0 1;", "0", "1", 5), 0);
        due("one above", fewest("mule 9 5 9;load 6 hard 0 1;", "0", "1", 5), 1);
        due("above by the stone", fewest("mule 9 5 9;load 9 hard 0 1;", "0", "1", 14), 1);
        due("above by more", fewest("mule 9 5 9;load 9 hard 0 1;", "0", "1", 15), -1);
        due("below by the stone", fewest("mule 9 5 9;load 15 hard 0 1;", "0", "1", 10), 1);
        due("below by more", fewest("mule 9 5 9;load 16 hard 0 1;", "0", "1", 10), 2);
        due("99", fewest("mule 9 99 9;load 99 hard 0 1;", "0", "1", 20), 0);
        due("no leg", fewest("mule 9 0 9;load 99 hard 0 1;", "0", "", 20), 0);
        due("one mule of two can not", fewest("mule 9 0 9;mule 9 0 9;load 5 hard 0 1;load 4 hard 0 1;", "02", "1", 5), -1);

        says("a STONE put on, or off, counts (none at first), all MULES together");
        due("put on", fewest("mule 9 0 9;load 10 hard 0 3;", "0", "123", 5), 2);
        due("on and off", fewest("mule 9 0 9;load 10 hard 0 1;", "0", "123", 5), 4);
        due("not off behind the last leg", fewest("mule 9 0 9;load 10 hard 0 1;", "0", "1", 5), 2);
        due("later", fewest("mule 9 0 9;load 10 hard 2 3;", "0", "123", 5), 2);
        due("from one side to the other", fewest("mule 9 0 9;load 10 hard 0 1;load 10 hard 1 2;", "01", "12", 5), 6);
        due("on the same side", fewest("mule 9 0 9;load 10 hard 0 1;load 10 hard 1 2;", "00", "12", 5), 2);
        for (String code : new String[] {"0", "1"}) {
            due("nine kept", fewest("mule 9 0 9;load 45 hard 0 3;", code, "123", 5), 9);
            due("nine and off", fewest("mule 9 0 9;load 45 hard 0 2;", code, "123", 5), 18);
        }
        due("nine over", fewest("mule 9 0 9;load 45 hard 0 1;load 45 hard 1 2;", "01", "12", 5), 27);
        due("two mules", fewest("mule 9 0 9;mule 9 0 9;load 10 hard 0 1;load 5 hard 0 1;", "03", "1", 5), 3);
        due("three mules", fewest("mule 9 0 9;mule 9 0 9;mule 9 0 9;" + times("load5hard0 1;", 3), "025", "1", 5), 3);

        says("(STONES at PLACES, MOST are not looked at.)");
        due("most", fewest("mule 1 0 9;load 99 hard 0 1;", "0", "1", 11), 9);
        due("stones at places", fewest("mule 1 0 9;stones 0 1;load 99 hard 0 1;", "0", "1", 11), 9);
    }

    private static EvenSides unsure(int many, int sure, int asked, String codes) {
        EvenSides x = told(THREE + "mule 999 99 9;mule 999 99 9;");
        for (int l = 0; l < many + sure; l++) {
            x.load(1, 1, 0, l % 2 + 1);
            x.ask(l, l < many ? asked : l % 2 * 100);
            if (codes.length() > 0) x.hang(l, l / 2 % 2, l % 2);
        }
        return lined(x, "12");
    }

    private static void fraction(EvenSides x, long above, long below) {
        due("part(0)", x.part(0), above);
        due("part(1)", x.part(1), below);
    }

    private static void chances() {
        says("CHANCE: up to 6 such LOADS with 1 to 99; else NO");
        for (int asked : new int[] {1, 50, 99}) {
            refused(() -> unsure(7, 0, asked, "hung"), "seven", EvenSides::chance, NO);
            refused(() -> unsure(7, 3, asked, "hung"), "seven of ten", EvenSides::chance, NO);
            EvenSides six = unsure(6, 4, asked, "hung");
            due("six of ten", six.chance(), 1);
            fraction(six, 1, 1);
            refused(() -> unsure(7, 0, asked, ""), "keep, seven", x -> x.keep(0), LOW_NO);
        }
        for (int asked : new int[] {0, 100}) due("ten that are sure", unsure(10, 0, asked, "hung").chance(), 1);
        EvenSides off = unsure(7, 0, 50, "hung");
        off.unline();
        due("seven that do not come off", off.chance(), 1);
        off.line(3);
        due("seven that do not come off", off.chance(), 1);
        off.line(1);
        due("four that come off", off.chance(), 1);
        off.line(2);
        due("seven that come off", off.chance(), NO);

        says("each LOAD that would come off on THE LINE is asked for with ASKED of 100, else it stays ON");
        String one = THREE + "mule 99 4 9;load 5 hard 0 3;load 5 hard 0 1;ask 1 #;";
        int[][] want = {{0, 1, 1}, {1, 99, 100}, {20, 4, 5}, {50, 1, 2}, {99, 1, 100}, {100, 0, 1}};
        for (int[] w : want) {
            EvenSides x = hung(one.replace("#", "" + w[0]), "01", "12");
            due("chance() of " + w[0], x.chance(), 1);
            fraction(x, w[1], w[2]);
        }
        EvenSides just = hung(one.replace("#", "30").replace("99 4 9", "99 5 9"), "01", "12");
        just.chance();
        fraction(just, 1, 1);
        EvenSides ran = hung(one.replace("#", "30") + "drain 0 1;", "01", "12");
        ran.chance();
        fraction(ran, 1, 1);
        EvenSides stays = hung(THREE + "mule 99 4 9;load 5 hard 0 1;ask 0 30;", "0", "12");
        stays.chance();
        fraction(stays, 0, 1);
        stays = hung(THREE + "mule 99 4 9;load 5 hard 0 1;load 5 hard 1 2;ask 0 30;", "00", "12");
        stays.chance();
        fraction(stays, 0, 1);
        // Two must do alike: both are asked for, or both stay.
        EvenSides both = hung(THREE + "mule 9 0 9;load 5 hard 0 1;load 5 hard 0 1;ask 0 30;ask 1 60;", "01", "12");
        both.chance();
        fraction(both, (3 * 6 + 7 * 4) / 2, 100 / 2);
        for (int m = 0; m < 3; m++) {
            EvenSides x = told(THREE + times("mule 99 4 9;", 3) + "load 5 hard 0 3;load 5 hard 0 1;ask 1 20;");
            x.hang(0, m, 0);
            x.hang(1, m, 1);
            lined(x, "12");
            due("chance() on mule " + m, x.chance(), 1);
            fraction(x, 4, 5);
        }
        lowestTerms();
    }

    private static void lowestTerms() {
        says("THE FRACTION is 0 by 1 at first; lowest terms, below above 0.");
        EvenSides both = hung(THREE + "mule 9 0 9;load 5 hard 0 1;load 5 hard 0 1;ask 0 30;ask 1 60;", "01", "12");
        fraction(both, 0, 1);
        both.chance();
        fraction(both, 23, 50);
        // Six that all must stay: 97 of 100 each.
        String six = "mule 999 0 9;mule 999 0 9;" + times("load9hard0 1;", 6) + times("load9hard0 3;", 4);
        EvenSides x = hung(THREE + six, "000111", "12");
        for (int l = 0; l < 6; l++) x.ask(l, 3);
        for (int l = 6; l < 10; l++) x.hang(l, 1, l % 2);
        due("chance()", x.chance(), 1);
        long above = 0;
        int[] ways = {1, 3, 3, 1};
        for (int k = 0; k <= 3; k++) above += ways[k] * ways[k] * power(3, 2 * k) * power(97, 6 - 2 * k);
        long below = 1000000000000L;
        long shared = java.math.BigInteger.valueOf(above).gcd(java.math.BigInteger.valueOf(below)).longValue();
        fraction(x, above / shared, below / shared);
        for (int l = 0; l < 6; l++) x.ask(l, 0);
        due("chance()", x.chance(), 1);
        fraction(x, 1, 1);

        says("THE FRACTION: above (0), below (1). BAD: -1.");
        range("part(what)", EvenSides::part, 0, 1, -1);
        due("part of rich", rich().part(0) <= rich().part(1) ? 1 : 0, 1);
    }

    private static long power(long a, int k) {
        long p = 1;
        for (int i = 0; i < k; i++) p *= a;
        return p;
    }

    private static void keeps() {
        says("KEEP: the code of a LOAD; its CHANCE is THE FRACTION. -5: none is BORNE. BAD: -10; NO: -20.");
        range("keep(load)", (x, v) -> x.keep(v), 0, 3, LOW_BAD);
        refused(() -> many("mule 999 9 9;mule 999 9 9;", 7, "1"), "keep of 16384", x -> x.keep(0), LOW_NO);
        refused(() -> many("mule 999 9 9;mule 999 9 9;", 7, "1"), "keep of 16384", x -> x.keep(7), LOW_BAD);
        refused(() -> withFraction(many("mule 3 9 9;", 2, "1")), "keep of none borne", x -> x.keep(1), -5);
        refused(() -> withFraction(many("mule 999 9 9;", 7, "1")), "keep of seven", x -> x.keep(1), -5);

        EvenSides six = lined(told(THREE + "mule 999 0 9;" + times("load4hard0 1;", 6)), "1");
        for (int l = 0; l < 6; l++) six.ask(l, 50);
        due("worst() of none", six.worst(), NO);
        for (int l = 0; l < 6; l++) due("keep of six unsure", six.keep(l), l / 3);
        fraction(six, 1, 1);
        for (int l = 0; l < 6; l++) six.hang(l, 0, 0);
        due("worst()", six.worst(), 24);
        due("keep is not led by what hangs", six.keep(5), 1);

        says("the one with the greatest CHANCE, of like ones the first row");
        EvenSides x = lined(told(THREE + "mule 99 4 9;load 5 hard 0 3;load 5 hard 0 1;load 5 hard 0 2;ask 1 40;"), "12");
        String codes = "";
        for (int l = 0; l < 3; l++) codes += x.keep(l);
        long above = x.part(0), below = x.part(1);
        double most = -1;
        String first = "";
        for (int row = 0; row < 8; row++) {
            String hangs = "" + (row >> 2) + (row >> 1 & 1) + (row & 1);
            for (int l = 0; l < 3; l++) x.hang(l, 0, hangs.charAt(l) - '0');
            x.chance();
            double here = (double) x.part(0) / x.part(1);
            if (x.borne() == 1 && here > most) {
                most = here;
                first = hangs;
            }
        }
        due("the row", Integer.parseInt(codes), Integer.parseInt(first));
        due("its chance", 1000 * above / below, (long) (1000 * most));
        EvenSides none = lined(told(THREE + "mule 99 0 9;load 5 hard 0 1;load 4 hard 0 1;"), "1");
        due("keep(0) of like ones", none.keep(0), 0);
        due("keep(1) of like ones", none.keep(1), 0);
        fraction(none, 0, 1);
        EvenSides even = lined(told(THREE + "mule 99 1 9;load 5 hard 0 1;load 4 hard 0 1;"), "1");
        due("keep(1)", even.keep(1), 1);
        fraction(even, 1, 1);
        due("nothing hangs by it", even.borne(), NO);
        // A greater chance that is not borne is none.
        EvenSides lame = lined(told(THREE + "mule 99 1 9;lame 0 1 3;load 5 hard 0 1;load 4 hard 0 1;"), "1");
        due("keep(1), lame", lame.keep(1), 0);
        fraction(lame, 0, 1);
    }

    private static EvenSides withFraction(EvenSides x) {
        x.image(0);
        x.ask(0, 35);
        for (int l = 0; l < x.count(2); l++) x.hang(l, 0, l % 2);
        lined(x, "12");
        x.chance();
        return x;
    }

    private static void alone() {
        says("ALONE: BAD: -10 (t 0 .. 999); -5: not so many");
        range("alone(mule, 30, NONE)", (x, v) -> x.alone(v, 30, -1), 0, 1, LOW_BAD);
        range("alone(0, t, NONE)", (x, v) -> x.alone(0, v, -1), 0, 999, LOW_BAD);
        for (int what : new int[] {-2, -3, LOW}) {
            refused(EdgesTest::rich, "alone(0, 30, " + what + ")", x -> x.alone(0, 30, what), LOW_BAD);
        }
        EvenSides x = hung("door;mule 1 0 0;mule 1 0 0;load 5 hard 0 1;load 3 hard 0 1;load 9 hard 1 0;load 9 hard 0 1;", "0103", "");
        int[][] want = {{0, 0, 0}, {2, 0, 0}, {4, 1, 1}, {5, 2, 0}, {999, 2, 0}};
        for (int[] w : want) {
            due("orders within " + w[0], x.alone(0, w[0], -1), w[1]);
            if (w[1] == 0) {
                for (int what : new int[] {0, 1, 2, BIG}) due("not so many", x.alone(0, w[0], what), -5);
                continue;
            }
            due("the first", x.alone(0, w[0], 0), w[2]);
            due("the second", x.alone(0, w[0], 1), 1 - w[2]);
            for (int what : new int[] {2, 3, 9, 10, BIG}) due("not so many", x.alone(0, w[0], what), -5);
        }
        due("one order of one", x.alone(1, 9, -1), 1);
        due("none of one", x.alone(1, 8, -1), 0);
        due("the first of one", x.alone(1, 9, 0), 3);
        EvenSides none = hung("door;mule 1 0 0;load 9 hard 1 0;", "0", "");
        due("none FROM the HOUSE: one order", none.alone(0, 0, -1), 1);
        due("and nobody in it", none.alone(0, 0, 0), -5);

        says("so that it is never UNEVEN by more than t");
        EvenSides turns = hung("door;mule 1 0 0;load 6 hard 0 1;load 2 hard 0 1;load 4 hard 0 1;", "011", "");
        int[][] within = {{1, 0}, {2, 0}, {3, 0}, {4, 2}, {5, 2}, {6, 6}};
        for (int[] w : within) due("alone(0, " + w[0] + ")", turns.alone(0, w[0], -1), w[1]);

        says("no HARD one comes on top of a SOFT one, and no SIDE has more than 3");
        String kinds = "door;mule 1 0 0;load 1 soft 0 1;load 1 hard 0 1;";
        due("one side", hung(kinds, "00", "").alone(0, 9, -1), 1);
        due("the first", hung(kinds, "00", "").alone(0, 9, 0), 1);
        due("two sides", hung(kinds, "01", "").alone(0, 9, -1), 2);
        String three = "door;mule 1 0 0;" + times("load1hard0 1;", 3);
        due("three", hung(three, "000", "").alone(0, 3, -1), 6);
        due("three within 2", hung(three, "000", "").alone(0, 2, -1), 0);
        due("four", hung(three + "load1hard0 1;", "0000", "").alone(0, 999, -1), 0);
        due("four", hung(three + "load1hard0 1;", "0000", "").alone(0, 999, 0), -5);
        due("three and one", hung(three + "load1hard0 1;", "0001", "").alone(0, 999, -1), 24);
        due("one and three", hung(three + "load1hard0 1;", "1000", "").alone(0, 999, -1), 24);
        due("one and three", hung(three + "load1hard0 1;", "0111", "").alone(0, 999, -1), 24);
        due("four on the other side", hung(three + "load1hard0 1;", "1111", "").alone(0, 999, -1), 0);
        due("ten", hung(three + times("load1hard0 1;", 7), times("01", 5), "").alone(0, 999, -1), 0);
        due("three and a fourth that lies elsewhere", hung(three + "load1hard1 0;", "0000", "").alone(0, 999, -1), 6);
        due("three and a fourth on another mule", hung(three + "mule 9 9 9;load1hard0 1;", "0002", "").alone(0, 999, -1), 6);
        EvenSides six = hung(three + times("load1hard0 1;", 3), "000111", "");
        due("six", six.alone(0, 999, -1), 720);
        int[] first = {0, 1, 2, 3, 4, 5, -5};
        for (int k = 0; k < first.length; k++) due("the first of six", six.alone(0, 999, k), first[k]);
        int[] byTurns = {0, 3, 1, 4, 2, 5, -5};
        for (int k = 0; k < byTurns.length; k++) due("by turns", six.alone(0, 1, k), byTurns[k]);
    }

    // ---- what there is

    private static void images() {
        says("IMAGES 0, 1 keep all but them and THE FRACTION; it goes on from one.");
        range("image(i)", (x, v) -> x.image(v), 0, 1, BAD);
        range("from(i)", (x, v) -> x.from(v), 0, 1, BAD);
        for (int i = 0; i < 2; i++) {
            int image = i;
            refused(() -> imaged(1 - image), "from one that was not kept", x -> x.from(image), NO);
            EvenSides x = rich();
            long digest = x.digest();
            due("image", x.image(i), 1);
            due("it stays as it is", x.digest(), digest);
            retyped(x, 0, "");
            x.day();
            lined(x, "");
            retyped(x, 1, "go 1;");
            due("from", x.from(i), 1);
            due("all is as it was", x.digest(), digest);
            lined(x, "132");
            retyped(x, 1, "GO");
            type8(x, 0);
            due("from", x.from(i), 1);
            due("all is as it was", x.digest(), digest);
            due("the other is what it was", x.from(1 - i), 1);
            due("count(2)", x.count(2), i == 1 ? 1 : 4);
            due("from again", x.from(i), 1);
            due("all is as it was", x.digest(), digest);
            x.image(1 - i);
            x.put(0, 19);
            due("an image does not change with it", x.from(1 - i), 1);
            due("all is as it was", x.digest(), digest);
        }
        EvenSides x = hung(THREE + "mule 9 0 9;load 5 hard 0 1;load 5 hard 0 1;ask 0 30;", "01", "12");
        x.image(0);
        x.chance();
        fraction(x, 3, 10);
        x.from(0);
        fraction(x, 3, 10);
        x.image(1);
        x.ask(0, 100);
        x.chance();
        fraction(x, 1, 1);
        x.from(1);
        fraction(x, 1, 1);
        due("asked as it was", x.ask(0, 0), 30);
    }

    private static void type8(EvenSides x, int text) {
        due("type", x.type(text, 0x2020202020202020L, 8), x.count(4 + text));
    }

    private static EvenSides imaged(int i) {
        EvenSides x = told(RICH);
        x.image(i);
        x.put(0, 9);
        return x;
    }

    private static long mix(long... row) {
        long h = 503;
        for (long v : row) h = 31 * h + v;
        return h;
    }

    private static void countAndDigest() {
        says("How many: 0 DOORS, 1 MULES, 2 LOADS, 3 in THE LINE, 4, 5 bytes of TEXTS. BAD.");
        range("count(what)", (x, v) -> x.count(v), 0, 5, BAD);
        EvenSides full = lined(fullOfAll(), "12345");
        int[] want = {5, 3, 10, 5, 240, 240};
        for (int what = 0; what <= 5; what++) due("count(" + what + ") of the full", full.count(what), want[what]);

        says("h = 503; then h = 31 h + v for each v, with wrap-around");
        EvenSides x = told(times("door;", 5) + times("mule 999 99 99;", 3) + times("load99hard5 0;", 10));
        long[] v = new long[6 + 27 + 15 + 70 + 2 + 5 + 480 + 2];
        int n = 0;
        for (int c : new int[] {5, 3, 10, 5, 240, 240}) v[n++] = c;
        for (int p = 0; p <= 5; p++) {
            for (int q = 0; q < p; q++) {
                x.way(p, q, 99 - 10 * p - q);
                v[n++] = 99 - 10 * p - q;
            }
            if (p > 1) x.ford(p);
            x.stones(p, 9 - p);
            v[n++] = p > 1 ? 1 : 0;
            v[n++] = 9 - p;
        }
        for (int m = 0; m < 3; m++) {
            x.lame(m, 0, m);
            x.lame(m, 1, 900 + m);
            for (int c : new int[] {999, 99, 99, m, 900 + m}) v[n++] = c;
        }
        for (int l = 0; l < 10; l++) {
            x.ask(l, 90 + l);
            x.drain(l, 9 - l);
            x.hang(l, l < 6 ? l / 2 : -1, l % 2);
            for (int c : new int[] {99, 1, 5, 0, 90 + l, 9 - l, l < 6 ? l : -1}) v[n++] = c;
        }
        x.put(0, 20);
        x.put(1, 9);
        v[n++] = 20;
        v[n++] = 9;
        for (int d : new int[] {3, 5, 1, 2, 4}) v[n++] = d;
        lined(x, "35124");
        String[] text = {"", ""};
        for (int k = 0; k < 240; k++) {
            text[0] += (char) (255 - k);
            text[1] += (char) k;
        }
        for (int t = 0; t < 2; t++) {
            retyped(x, t, text[t]);
            for (int k = 0; k < 240; k++) v[n++] = text[t].charAt(k);
        }
        v[n++] = 0;
        v[n++] = 1;
        due("digest() of the full", x.digest(), mix(java.util.Arrays.copyOf(v, n)));
        EvenSides third = hung("door;mule 9 0 9;load 5 hard 0 1;", "0", "");
        third.clear(0);
        third.chance();
        due("digest() with THE FRACTION", third.digest(), mix(1, 1, 1, 0, 0, 0, 0, 0, 1, 0, 0, 9, 0, 9, 999, 999,
            5, 1, 0, 1, 100, 0, 0, 5, 2, 1, 1));
        EvenSides two = hung(THREE + "mule 9 0 9;load 5 hard 0 1;load 5 hard 0 1;ask 0 30;", "01", "12");
        long ahead = two.digest();
        two.chance();
        due("digest() with THE FRACTION", two.digest() - ahead, 31 * 3 + (10 - 1));
    }

    private static void fiveHundredAndTwelve() {
        says("An object is used for at most 512 calls after it has been made");
        EvenSides x = new EvenSides();
        x.door();
        for (int call = 2; call <= 511; call++) due("call " + call, x.way(0, 1, call % 99 + 1), call == 2 ? 1 : (call - 1) % 99 + 1);
        due("call 512", x.way(1, 0, 7), 511 % 99 + 1);
        EvenSides y = new EvenSides();
        for (int call = 1; call <= 512; call++) {
            due("call " + call, call % 2 == 1 ? y.type(0, 'a', 1) : y.clear(0), 1);
        }
    }

    private static void theFull() {
        says("the full: 5 DOORS in THE LINE, 3 MULES, 10 LOADS");
        String day = times("door;", 5) + times("mule 999 9 9;", 3) + times("load9hard0 5;", 10);
        EvenSides x = hung(day, "0011223345", "12345");
        due("borne()", x.borne(), 1);
        due("worst()", x.worst(), 0);
        due("longer()", x.longer(), 0);
        due("stays(NONE)", x.stays(-1), LOW_NO);
        due("best(NONE)", x.best(-1), LOW_NO);
        due("keep(9)", x.keep(9), LOW_NO);
        due("liftings()", x.liftings(), 10 + 4 * (2 + 1) + 2);
        due("fewest()", x.fewest(), 0);
        due("chance()", x.chance(), 1);
        due("alone(2, 9, NONE)", x.alone(2, 9, -1), 2);
        due("alone(2, 9, 1)", x.alone(2, 9, 1), 9);
        due("halves(1023, 0)", x.halves(1023, 0), 0);
        due("within(1023, 0)", x.within(1023, 0), 0);
        x.hang(9, 0, 0);
        due("worst()", x.worst(), 9);
        due("longer()", x.longer(), 0);
        x.hang(8, 0, 0);
        due("longer()", x.longer(), 5);
        due("borne()", x.borne(), 0);
        due("liftings()", x.liftings(), -1);
        due("fewest()", x.fewest(), 2);
        due("chance()", x.chance(), 1);
        fraction(x, 0, 1);
        EvenSides four = lined(told(times("door;", 5) + times("mule 999 9 9;", 3) + times("load9hard0 5;", 4)), "54321");
        rows(four, "0011");
        due("keep(3)", four.keep(3), 1);
        due("best(4)", four.best(4), 5);
        EvenSides ten = told(times("door;", 5) + "mule 999 9 9;");
        for (int l = 0; l < 10; l++) ten.load(9, 1, l / 2, l / 2 + 1 > 5 ? 0 : l / 2 + 1);
        lined(ten, "12345");
        rows(ten, "0101010101");
        for (int l = 0; l < 10; l++) due("keep(" + l + ")", ten.keep(l), l % 2);
        for (int k = 0; k < 5; k++) due("best(" + k + ")", ten.best(k), k + 1);
        due("best(NONE)", ten.best(-1), 0);
    }


    public static void main(String[] args) {
        aNewObject();
        doors();
        mules();
        loads();
        drains();
        numbers();
        texts();
        tokens();
        days();
        begins();
        wrongOne();
        wrongTwo();
        wrongThreeAndFour();
        wrongFive();
        wrongSix();
        wrongSeven();
        theFirstOfThese();
        halves();
        within();
        hangingAndLine();
        onAndOff();
        borneOnes();
        staysAndBest();
        bestOnes();
        layers();
        fewestStones();
        chances();
        keeps();
        alone();
        images();
        countAndDigest();
        theFull();
        fiveHundredAndTwelve();
        System.out.println(wrong == 0 ? "all edges hold" : wrong + " answers are not as due");
        if (wrong != 0) System.exit(1);
    }
}
