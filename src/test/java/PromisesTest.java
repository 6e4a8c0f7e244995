import java.nio.charset.StandardCharsets;

/** Each promise of the document by itself: ordinary answers, edges, and what is refused. */
public final class PromisesTest {
    private static final int BIG = Integer.MAX_VALUE, LOW = Integer.MIN_VALUE;
    private static int wrong = 0;
    private static String promise = "";

    private static void due(String call, long got, long want) {
        if (got == want) return;
        wrong++;
        System.out.println(promise + ": " + call + " answered " + got + ", due is " + want);
    }

    /** A call that is refused, and changes nothing. */
    private static void refused(EvenSides x, String call, long before, long got, long want) {
        due(call, got, want);
        due(call + " changes the digest", x.digest(), before);
    }

    private static void type(EvenSides x, int text, String words) {
        for (byte b : words.getBytes(StandardCharsets.ISO_8859_1)) {
            x.type(text, b, 1);
        }
    }

    private static void retype(EvenSides x, int text, String words) {
        x.clear(text);
        type(x, text, words);
    }

    /** An object whose day is told by a text. */
    private static EvenSides told(String day) {
        EvenSides x = new EvenSides();
        type(x, 0, day);
        int items = x.day();
        if (items < 0) due("day() of " + day, items, 0);
        return x;
    }

    private static EvenSides acted(String day, String acts) {
        EvenSides x = told(day);
        type(x, 1, acts);
        return x;
    }

    /** Hangs all loads by their codes, given as figures. */
    private static void hangAll(EvenSides x, String codes) {
        for (int l = 0; l < codes.length(); l++) {
            int code = codes.charAt(l) - '0';
            x.hang(l, code / 2, code % 2);
        }
    }

    private static void lineAll(EvenSides x, String doors) {
        x.unline();
        for (int i = 0; i < doors.length(); i++) {
            x.line(doors.charAt(i) - '0');
        }
    }

    private static void fraction(EvenSides x, long above, long below) {
        due("part(0)", x.part(0), above);
        due("part(1)", x.part(1), below);
    }

    private static void p1() {
        EvenSides x = new EvenSides();
        for (int what = 0; what <= 5; what++) due("count(" + what + ")", x.count(what), 0);
        fraction(x, 0, 1);
        due("put(0, 5)", x.put(0, 5), 5);
        due("put(1, 2)", x.put(1, 2), 2);
        due("stones(0, 1)", x.stones(0, 1), 0);
        due("fault(0)", x.fault(0), -1);
        due("fault(1)", x.fault(1), -1);
        due("from(0)", x.from(0), -3);
        due("from(1)", x.from(1), -3);
        for (int what = 0; what <= 5; what++) due("run(" + what + ")", x.run(what), 0);
    }

    private static void p2() {
        EvenSides x = new EvenSides();
        for (int d = 1; d <= 5; d++) due("door()", x.door(), d);
        refused(x, "door()", x.digest(), x.door(), -4);
        due("count(0)", x.count(0), 5);
    }

    private static void p3() {
        EvenSides x = told("door;door;door;door;door;");
        for (int a = 0; a <= 5; a++) {
            for (int b = 0; b < a; b++) {
                due("way", x.way(a, b, 10 * a + b + 1), 1);
                due("way back", x.way(b, a, 99), 10 * a + b + 1);
                due("way", x.way(a, b, 1), 99);
            }
        }
        long before = x.digest();
        for (int a = 0; a <= 5; a++) refused(x, "way alike", before, x.way(a, a, 5), -2);
        int[][] bad = {{0, 1, 0}, {0, 1, 100}, {-1, 1, 5}, {0, 6, 5}, {6, 0, 5}, {1, -1, 5},
            {0, 1, -7}, {BIG, 1, 5}, {LOW, 1, 5}, {0, BIG, 5}, {0, 1, BIG}, {0, 1, LOW}};
        for (int[] b : bad) refused(x, "way", before, x.way(b[0], b[1], b[2]), -2);
        EvenSides y = told("door;");
        due("way to a door that is not there", y.way(0, 2, 5), -2);
    }

    private static void p4() {
        EvenSides x = told("door;door;");
        due("ford(2)", x.ford(2), 1);
        long before = x.digest();
        refused(x, "ford(2)", before, x.ford(2), -3);
        for (int d : new int[] {0, 3, -1, BIG, LOW}) refused(x, "ford", before, x.ford(d), -2);
        due("ford(1)", x.ford(1), 1);
    }

    private static void p5() {
        EvenSides x = told("door;");
        due("stones(1, 9)", x.stones(1, 9), 0);
        due("stones(1, 0)", x.stones(1, 0), 9);
        due("stones(0, 4)", x.stones(0, 4), 0);
        due("stones(0, 4)", x.stones(0, 4), 4);
        long before = x.digest();
        int[][] bad = {{2, 1}, {-1, 1}, {0, 10}, {0, -1}, {BIG, 1}, {0, BIG}, {LOW, LOW}};
        for (int[] b : bad) refused(x, "stones", before, x.stones(b[0], b[1]), -2);
    }

    private static void p6() {
        EvenSides x = new EvenSides();
        int[][] bad = {{0, 5, 5}, {1000, 5, 5}, {5, -1, 5}, {5, 100, 5}, {5, 5, -1}, {5, 5, 100},
            {BIG, 5, 5}, {5, BIG, 5}, {5, 5, BIG}, {LOW, 5, 5}};
        long before = x.digest();
        for (int[] b : bad) refused(x, "mule", before, x.mule(b[0], b[1], b[2]), -2);
        due("mule(1, 0, 0)", x.mule(1, 0, 0), 0);
        due("mule(999, 99, 99)", x.mule(999, 99, 99), 1);
        due("mule(5, 5, 5)", x.mule(5, 5, 5), 2);
        before = x.digest();
        refused(x, "a fourth mule", before, x.mule(5, 5, 5), -4);
        refused(x, "a bad fourth mule", before, x.mule(0, 5, 5), -2);
        due("count(1)", x.count(1), 3);
    }

    private static void p7() {
        EvenSides x = told("mule 5 5 5;mule 5 5 5;");
        due("lame(1, 0, 0)", x.lame(1, 0, 0), 999);
        due("lame(1, 1, 7)", x.lame(1, 1, 7), 999);
        due("lame(1, 0, 999)", x.lame(1, 0, 999), 0);
        due("lame(1, 1, 7)", x.lame(1, 1, 7), 7);
        long before = x.digest();
        int[][] bad = {{2, 0, 5}, {-1, 0, 5}, {0, 2, 5}, {0, -1, 5}, {0, 0, 1000}, {0, 0, -1},
            {BIG, 0, 5}, {0, BIG, 5}, {0, 0, BIG}};
        for (int[] b : bad) refused(x, "lame", before, x.lame(b[0], b[1], b[2]), -2);
    }

    private static void p8() {
        EvenSides x = told("door;door;");
        int[][] bad = {{0, 1, 0, 1}, {100, 1, 0, 1}, {5, 2, 0, 1}, {5, -1, 0, 1}, {5, 1, 3, 1},
            {5, 1, 0, 3}, {5, 1, -1, 1}, {5, 1, 0, -1}, {5, 1, 1, 1}, {5, 0, 0, 0}, {BIG, 1, 0, 1},
            {5, BIG, 0, 1}, {5, 1, BIG, 1}, {5, 1, 0, LOW}};
        long before = x.digest();
        for (int[] b : bad) refused(x, "load", before, x.load(b[0], b[1], b[2], b[3]), -2);
        due("load(1, 0, 2, 0)", x.load(1, 0, 2, 0), 0);
        for (int l = 1; l < 10; l++) due("load", x.load(99, l % 2, 0, 2), l);
        before = x.digest();
        refused(x, "an eleventh load", before, x.load(5, 1, 0, 1), -4);
        refused(x, "a bad eleventh load", before, x.load(5, 1, 1, 1), -2);
        due("count(2)", x.count(2), 10);
        due("its code", x.hang(3, -1, 0), -1);
    }

    private static void p9() {
        EvenSides x = told("door;load 5 hard 0 1;load 5 hard 0 1;");
        due("ask(1, 0)", x.ask(1, 0), 100);
        due("ask(1, 100)", x.ask(1, 100), 0);
        due("ask(0, 50)", x.ask(0, 50), 100);
        long before = x.digest();
        int[][] bad = {{2, 5}, {-1, 5}, {0, 101}, {0, -1}, {BIG, 5}, {0, BIG}};
        for (int[] b : bad) refused(x, "ask", before, x.ask(b[0], b[1]), -2);
    }

    private static void p10() {
        EvenSides x = told("door;load 5 hard 0 1;load 5 hard 0 1;");
        due("drain(1, 9)", x.drain(1, 9), 0);
        due("drain(1, 0)", x.drain(1, 0), 9);
        due("drain(0, 3)", x.drain(0, 3), 0);
        long before = x.digest();
        int[][] bad = {{2, 5}, {-1, 5}, {0, 10}, {0, -1}, {BIG, 5}, {0, BIG}};
        for (int[] b : bad) refused(x, "drain", before, x.drain(b[0], b[1]), -2);
    }

    private static void p11() {
        EvenSides x = new EvenSides();
        due("put(0, 20)", x.put(0, 20), 5);
        due("put(0, 1)", x.put(0, 1), 20);
        due("put(1, 9)", x.put(1, 9), 2);
        due("put(1, 1)", x.put(1, 1), 9);
        long before = x.digest();
        int[][] bad = {{0, 0}, {0, 21}, {1, 0}, {1, 10}, {2, 5}, {-1, 5}, {BIG, 5}, {0, BIG}, {1, LOW}};
        for (int[] b : bad) refused(x, "put", before, x.put(b[0], b[1]), -2);
    }

    private static void p12() {
        EvenSides x = new EvenSides();
        due("type(0, ..\"go\", 2)", x.type(0, 0x7777676fL, 2), 2);
        EvenSides y = new EvenSides();
        y.type(0, 'g', 1);
        due("the highest of them comes first", y.type(0, 'o', 1), 2);
        due("the same text", y.digest(), x.digest());
        long before = x.digest();
        int[][] bad = {{0, 0}, {0, 9}, {0, -1}, {2, 1}, {-1, 1}, {BIG, 1}, {0, BIG}};
        for (int[] b : bad) refused(x, "type", before, x.type(b[0], 32, b[1]), -2);
        EvenSides z = new EvenSides();
        for (int i = 1; i <= 29; i++) due("type of 8", z.type(1, 0x2020202020202020L, 8), 8 * i);
        due("to 239", z.type(1, 0x20202020202020L, 7), 239);
        before = z.digest();
        refused(z, "one too many", before, z.type(1, 0x2020L, 2), -4);
        due("the last byte", z.type(1, 32, 1), 240);
        before = z.digest();
        refused(z, "a byte more", before, z.type(1, 32, 1), -4);
        refused(z, "bad ahead of full", before, z.type(1, 32, 9), -2);
        due("the other text", z.type(0, -1, 8), 8);
        EvenSides w = new EvenSides();
        w.type(0, -1, 1);
        due("a byte is 0 to 255", w.digest(), mix(0, 0, 0, 0, 1, 0, 0, 0, 5, 2, 255, 0, 1));
    }

    private static void p13() {
        EvenSides x = new EvenSides();
        due("clear(0)", x.clear(0), 0);
        type(x, 0, "door;");
        type(x, 1, "go 1;go");
        due("clear(0)", x.clear(0), 5);
        due("clear(1)", x.clear(1), 7);
        due("count(4)", x.count(4), 0);
        due("count(5)", x.count(5), 0);
        for (int t : new int[] {-1, 2, BIG, LOW}) refused(x, "clear", x.digest(), x.clear(t), -2);
        due("the same as new", x.digest(), new EvenSides().digest());
    }

    private static void faults(int text, String words, int want) {
        EvenSides x = new EvenSides();
        type(x, text, words);
        due("fault(" + text + ") of '" + words + "'", x.fault(text), want);
    }

    private static void p14() {
        String all = "mule 1 2 3;load 4 hard 0 1;load 4 soft 0 1;door;way 0 1 2;lame 0 1 2;"
            + "ford 1;ask 0 50;drain 0 3;stones 0 3;";
        faults(0, all, -1);
        faults(1, "hang 0 0 0;take 0 1;over 0 1;swap 0 1 2 3;stone 0 1;drop 0 1;go 1;", -1);
        for (int t = 0; t < 2; t++) {
            faults(t, "", -1);
            faults(t, "   ", -1);
            faults(t, ";", 0);
            faults(t, "  ;", 2);
            faults(t, "7;", 0);
            faults(t, "hard;", 0);
            faults(t, "Door;", 0);
        }
        faults(0, "  door ;  door;", -1);
        faults(0, "door;;", 5);
        faults(0, "door", 4);
        faults(0, "door  ", 6);
        faults(0, "doo", 0);
        faults(0, "doors;", 0);
        faults(0, "door 1;", 5);
        faults(0, "door;go 1;", 5);
        faults(1, "door;", 0);
        faults(1, "stones 0 1;", 0);
        faults(0, "stone 0 1;", 0);
        faults(0, "mule 1 2 3", 10);
        faults(0, "mule 1 2;", 8);
        faults(0, "mule 1 2 3 4;", 11);
        faults(0, "mule 1 door 3;", 7);
        faults(0, "mule1 2 3;", -1);
        faults(0, "mule 001 2 999;", -1);
        faults(0, "mule 1 1234 3;", 7);
        faults(0, "mule 1 0000 3;", 7);
        faults(0, "mule 1234", 5);
        faults(0, "mule 1 -2 3;", 7);
        faults(0, "mule 1 2 3;\n", 11);
        faults(0, "mule 1\t2 3;", 6);
        faults(0, "load 4 1 0 1;", 7);
        faults(0, "load 4 har 0 1;", 7);
        faults(0, "load hard 4 0 1;", 5);
        faults(0, "load4hard0 1;", -1);
        faults(0, "lame 0 1 bears;", 9);
        faults(0, "door;\u00ff", 5);
        faults(1, "go\u0000 1;", 2);
        faults(1, "go 1 2;", 5);
        faults(1, "go0;go1;", -1);
        faults(1, "swap 0 1 2;", 10);
        String[] acts = {"hang 0 0 0;", "take 0 1;", "over 0 1;", "swap 0 1 2 3;", "stone 0 1;", "drop 0 1;", "go 1;"};
        for (String act : acts) {
            faults(0, act, 0);
            faults(1, "x" + act.substring(1), 0);
            faults(1, act.substring(1), 0);
        }
        for (String item : all.split("(?<=;)")) {
            faults(1, item, 0);
            faults(0, "x" + item.substring(1), 0);
            faults(0, item.substring(1), 0);
        }
        faults(0, "load 4 xard 0 1;", 7);
        faults(1, "go0;".repeat(60), -1);
        faults(1, "go0;".repeat(59) + "go00", 240);
        faults(1, "go0;".repeat(59) + "gogo", 236);
        staleBytes();
        EvenSides x = new EvenSides();
        for (int t : new int[] {-1, 2, BIG, LOW}) due("fault", x.fault(t), -2);
    }

    /** What a text had before it was cleared is not read. */
    private static void staleBytes() {
        EvenSides x = new EvenSides();
        type(x, 0, "doors;door;");
        retype(x, 0, "door");
        due("fault(0)", x.fault(0), 4);
        retype(x, 0, "mule 1 2 34;");
        retype(x, 0, "mule 1 2 3");
        due("fault(0)", x.fault(0), 10);
        retype(x, 0, "door   door;");
        retype(x, 0, "door;  ");
        due("fault(0)", x.fault(0), -1);
        due("day()", x.day(), 1);
    }

    private static void p15() {
        EvenSides x = new EvenSides();
        x.door();
        x.mule(5, 5, 5);
        x.load(5, 1, 0, 1);
        x.hang(0, 0, 1);
        x.line(1);
        x.stones(0, 3);
        x.put(0, 7);
        x.put(1, 3);
        type(x, 1, "go 1;");
        due("day() of no text", x.day(), 0);
        for (int what = 0; what <= 4; what++) due("count", x.count(what), 0);
        due("text 1 stays", x.count(5), 5);
        due("stones are gone", x.stones(0, 0), 0);
        due("numbers stay", x.put(0, 7), 7);
        due("numbers stay", x.put(1, 3), 3);

        String words = "door;door;mule 50 4 3;load 12 soft 0 2;load 9 hard 1 0;way 0 2 17;"
            + "lame 0 1 44;ford 2;ask 1 30;drain 0 2;stones 2 6;";
        type(x, 0, words);
        due("day()", x.day(), 11);
        EvenSides y = new EvenSides();
        y.put(0, 7);
        y.put(1, 3);
        type(y, 0, words);
        type(y, 1, "go 1;");
        y.door();
        y.door();
        y.mule(50, 4, 3);
        y.load(12, 0, 0, 2);
        y.load(9, 1, 1, 0);
        y.way(2, 0, 17);
        y.lame(0, 1, 44);
        y.ford(2);
        y.ask(1, 30);
        y.drain(0, 2);
        y.stones(2, 6);
        due("as told by calls", x.digest(), y.digest());
        due("day() again", x.day(), 11);
        due("as before", x.digest(), y.digest());
        x.hang(0, 0, 0);
        x.line(1);
        x.day();
        due("no hanging, no line", x.digest(), y.digest());

        refuseDay("door;door", -10 - 9);
        refuseDay("nothing;", -10);
        refuseDay("way 0 1 2;", -1000);
        refuseDay("door;door;door;door;door;door;", -1005);
        refuseDay("door;ford 1;ford 1;", -1002);
        refuseDay("mule 0 1 1;", -1000);
        refuseDay("door;mule 1 1 1;load 5 hard 1 1;", -1002);
        refuseDay("mule 1 1 1;lame 0 2 5;door;", -1001);
        refuseDay("door;load 5 soft 0 1;ask 0 101;", -1002);
        refuseDay("door;load 5 soft 0 1;drain 0 10;", -1002);
        refuseDay("door;stones 1 10;", -1001);
    }

    private static void refuseDay(String words, int want) {
        EvenSides x = told("door;mule 7 7 7;load 7 hard 0 1;stones 1 4;ford 1;way 0 1 9;");
        x.hang(0, 0, 1);
        x.line(1);
        retype(x, 0, words);
        refused(x, "day() of " + words, x.digest(), x.day(), want);
    }

    /** What run(0) to run(5) answer. */
    private static void runs(EvenSides x, int... want) {
        for (int what = 0; what < want.length; what++) due("run(" + what + ")", x.run(what), want[what]);
    }

    private static void wrongBy(String day, String acts, int right, int why) {
        EvenSides x = acted(day, acts);
        due("run(0) of " + acts, x.run(0), right);
        due("run(1) of " + acts, x.run(1), why);
    }

    private static final String DAY = "door;door;way 0 1 3;way 1 2 4;way 0 2 9;mule 60 10 5;mule 40 0 0;"
        + "load 10 hard 0 1;load 12 soft 0 2;load 5 hard 1 0;load 20 soft 0 1;load 30 hard 0 1;stones 0 2;";

    private static void p16() {
        runs(acted(DAY, ""), 0, 0, 0, 0, 0, 0);
        EvenSides x = acted(DAY, "hang 0 0 0;hang 1 0 1;go 1;take 0 0;hang 2 0 0;go 2;take 0 1;");
        runs(x, 7, 0, 7, 10, 2, 2);
        x.put(1, 9);
        runs(x, 7, 0, 7, 45, 2, 2);
        retype(x, 1, "hang 2 0 0;");
        runs(x, 0, 2, 0, 0, 0, 0);
        for (int what : new int[] {-1, 6, BIG, LOW}) due("run", x.run(what), -2);
        retype(x, 1, "hang 2 0 0");
        for (int what = 0; what <= 5; what++) due("run with a fault", x.run(what), -3);
        due("run(6) with a fault", x.run(6), -2);

        wrongOnes();
        wrongFives();
        wrongSores();
        wrongFords();
    }

    private static void wrongOnes() {
        String[] one = {"hang 5 0 0;", "hang 0 2 0;", "hang 0 0 2;", "take 2 0;", "take 0 2;",
            "over 2 0;", "over 0 2;", "swap 2 0 0 0;", "swap 0 2 0 0;", "swap 0 0 2 0;",
            "swap 0 0 0 2;", "swap 1 1 1 1;", "stone 2 0;", "stone 0 2;", "drop 2 0;", "drop 0 2;",
            "go 3;", "go 0;", "hang 999 999 999;"};
        for (String act : one) wrongBy(DAY, act, 0, 1);
        wrongBy(DAY, "go 1;go 1;", 1, 1);
        String[] two = {"hang 2 0 0;", "take 0 0;", "over 0 0;", "swap 0 0 1 0;", "drop 0 0;"};
        for (String act : two) wrongBy(DAY, act, 0, 2);
        wrongBy(DAY, "hang 0 0 0;hang 0 0 0;", 1, 2);
        wrongBy(DAY, "stone 0 0;stone 0 0;stone 0 0;", 2, 2);
        wrongBy(DAY, "stone 0 0;take 0 0;", 1, 2);
        wrongBy(DAY, "go 1;stone 0 0;", 1, 2);
        wrongBy(DAY, "stone 0 0;go 1;drop 0 0;stone 1 1;", 4, 0);
        wrongBy(DAY, "stone 0 0;drop 0 1;", 1, 2);
        String many = "door;mule 999 9 9;load 1 soft 0 1;load 1 soft 0 1;load 1 hard 0 1;load 1 hard 0 1;";
        wrongBy(many, "hang 0 0 0;hang 1 0 0;hang 2 0 1;swap 0 1 0 0;", 3, 4);
        wrongBy(many, "hang 2 0 0;hang 0 0 0;hang 1 0 0;hang 3 0 0;", 3, 3);
        wrongBy(many, "hang 2 0 0;hang 0 0 0;hang 1 0 0;hang 3 0 1;over 0 1;", 4, 3);
        wrongBy(many, "hang 2 0 0;hang 3 0 0;hang 0 0 0;hang 1 0 0;", 3, 3);
        wrongBy(many, "hang 0 0 0;hang 2 0 0;", 1, 4);
        wrongBy(many, "hang 0 0 0;hang 1 0 0;over 0 0;", 3, 0);
        wrongBy(many, "hang 0 0 0;hang 2 0 1;over 0 1;", 2, 4);
    }

    private static void wrongFives() {
        String day = "door;mule 50 99 9;mule 50 99 9;lame 0 1 20;load 21 hard 0 1;load 20 hard 0 1;"
            + "load 30 hard 0 1;stones 0 9;drain 0 1;";
        wrongBy(day, "hang 0 0 1;", 0, 5);
        wrongBy(day, "hang 1 0 1;", 1, 0);
        wrongBy(day, "hang 1 0 1;stone 0 1;", 1, 5);
        wrongBy(day, "hang 1 0 1;hang 2 0 0;", 2, 0);
        wrongBy(day, "hang 1 0 1;hang 2 0 0;stone 0 0;", 2, 5);
        wrongBy(day, "hang 0 0 0;over 0 0;", 1, 5);
        wrongBy(day, "hang 1 0 0;over 0 0;over 0 1;", 3, 0);
        wrongBy(day, "hang 2 0 0;hang 1 0 0;over 0 0;", 3, 0);
        wrongBy(day, "hang 0 1 0;swap 1 0 0 1;", 1, 5);
        wrongBy(day, "hang 2 0 0;hang 0 1 0;swap 1 0 0 0;", 2, 5);
        wrongBy(day, "hang 2 0 0;hang 1 1 0;swap 1 0 0 0;", 3, 0);
        // It has run out by 1 when one has arrived, wherever it is.
        wrongBy(day, "go 1;go 0;hang 0 0 1;", 3, 0);
        wrongBy(day, "hang 0 1 0;go 1;swap 1 0 0 1;", 3, 0);
    }

    private static void wrongSores() {
        String day = "door;door;way 0 1 3;way 1 2 3;mule 99 4 3;load 5 hard 0 1;load 1 hard 0 1;stones 0 1;";
        EvenSides x = acted(day, "hang 0 0 0;go 1;go 2;");
        runs(x, 2, 6, 4, 2, 1, 0);
        // One mile on which it is even makes it sore for none.
        x = acted(day + "stones 1 1;way 1 2 1;way 0 2 3;", "hang 0 0 0;go 1;stone 0 1;go 2;drop 0 1;go 0;");
        runs(x, 6, 0, 7, 6, 0, 0);
        x = acted(day, "hang 0 0 0;hang 1 0 1;go 1;go 2;go 1;go 2;");
        runs(x, 6, 0, 12, 4, 2, 0);
        // Acts between two goings do not rest it.
        x = acted(day, "hang 0 0 0;go 1;over 0 0;over 0 1;go 2;");
        runs(x, 4, 6, 4, 6, 1, 0);
        x = acted("door;way 0 1 9;mule 99 0 0;load 1 hard 0 1;", "hang 0 0 1;go 1;");
        runs(x, 1, 6, 1, 2, 0, 0);
        // What runs out makes it even again only when one has arrived.
        x = acted("door;way 0 1 3;mule 99 4 3;load 5 hard 0 1;drain 0 1;", "hang 0 0 0;go 1;go 0;go 1;");
        runs(x, 4, 0, 9, 2, 1, 0);
        // Two mules are sore by themselves.
        x = acted("door;way 0 1 3;mule 9 0 2;mule 9 0 1;load 1 hard 0 1;load 1 hard 0 1;",
            "hang 0 0 0;hang 1 1 1;go 1;");
        runs(x, 2, 6, 2, 4, 0, 0);
    }

    private static void wrongFords() {
        String day = "door;door;ford 1;way 0 1 5;mule 99 0 0;load 5 soft 0 1;load 5 hard 0 1;load 5 soft 0 1;";
        wrongBy(day, "hang 0 0 1;go 1;", 1, 7);
        EvenSides x = acted(day, "hang 0 0 1;go 1;");
        runs(x, 1, 7, 0, 2, 0, 0);
        wrongBy(day, "hang 1 0 1;hang 0 0 1;go 1;", 2, 6);
        wrongBy(day, "hang 1 0 1;hang 2 0 0;go 1;", 2, 7);
        wrongBy("door;door;ford 1;mule 99 9 9;load 5 soft 0 1;load 5 soft 1 2;", "go 1;hang 1 0 0;go 2;", 3, 0);
        wrongBy("door;door;ford 1;mule 99 9 9;load 5 soft 0 1;load 5 soft 1 2;", "hang 0 0 0;go 2;go 1;", 2, 7);
        wrongBy("door;door;ford 1;mule 99 9 9;load 5 soft 0 1;load 5 soft 1 2;", "go 1;hang 1 0 0;go 0;", 3, 0);
    }

    private static void sides(EvenSides x, int mule, int side, int... want) {
        for (int what = 0; what < 4; what++) {
            due("side(" + mule + ", " + side + ", " + what + ")", x.side(mule, side, what), want[what]);
        }
    }

    private static void p17() {
        EvenSides x = acted(DAY, "hang 4 0 1;hang 1 0 1;stone 0 1;stone 0 0;hang 0 1 0;");
        sides(x, 0, 0, 5, 0, -1, 1);
        sides(x, 0, 1, 47, 2, 1, 1);
        sides(x, 1, 0, 10, 1, 0, 0);
        sides(x, 1, 1, 0, 0, -1, 0);
        type(x, 1, "swap 0 1 1 1;drop 0 0;take 1 0;");
        sides(x, 0, 0, 0, 0, -1, 0);
        sides(x, 0, 1, 35, 1, 4, 1);
        sides(x, 1, 0, 0, 0, -1, 0);
        sides(x, 1, 1, 12, 1, 1, 0);
        int[][] bad = {{2, 0, 0}, {-1, 0, 0}, {0, 2, 0}, {0, -1, 0}, {0, 0, 4}, {0, 0, -1}, {BIG, 0, 0},
            {0, BIG, 0}, {0, 0, BIG}};
        for (int[] b : bad) due("side", x.side(b[0], b[1], b[2]), -10);
        type(x, 1, "go");
        due("side with a fault", x.side(0, 0, 0), -20);
        due("bad with a fault", x.side(0, 0, 4), -10);
        x = acted("door;mule 99 99 99;load 9 hard 0 1;drain 0 7;", "hang 0 0 0;go 1;");
        sides(x, 0, 0, 2, 1, 0, 0);
        type(x, 1, "go 0;");
        sides(x, 0, 0, 0, 1, 0, 0);
    }

    private static void p18() {
        EvenSides x = acted(DAY, "hang 0 0 0;hang 1 1 1;over 0 0;");
        int[] want = {11, 13, 1, 0, 0};
        for (int l = 0; l < 5; l++) due("where(" + l + ")", x.where(l), want[l]);
        for (int l : new int[] {-1, 5, BIG, LOW}) due("where", x.where(l), -2);
        type(x, 1, "swap 1 1 0 0;go 2;take 0 1;");
        due("where(0)", x.where(0), 2);
        due("where(1)", x.where(1), 10);
        type(x, 1, ";");
        due("where with a fault", x.where(0), -3);
        due("bad with a fault", x.where(5), -2);
    }

    private static void p19() {
        EvenSides x = told("door;load 20 hard 0 1;load 18 soft 0 1;load 7 hard 0 1;load 9 hard 0 1;");
        int[][] want = {{1, 20, 2, 0}, {2, 18, 2, 0}, {3, 2, 2, 1}, {7, 5, 2, 1}, {8, 9, 2, 0},
            {12, 2, 2, 4}, {14, 2, 2, 2}, {15, 0, 2, 5}};
        for (int[] w : want) {
            for (int what = 0; what < 3; what++) {
                due("halves(" + w[0] + ", " + what + ")", x.halves(w[0], what), w[what + 1]);
            }
        }
        int[][] bad = {{0, 0}, {16, 0}, {17, 0}, {-1, 0}, {3, 3}, {3, -1}, {BIG, 0}, {LOW, 0}, {3, BIG}};
        for (int[] b : bad) due("halves(" + b[0] + ", " + b[1] + ")", x.halves(b[0], b[1]), -2);
        due("halves of no loads", new EvenSides().halves(1, 0), -2);
        EvenSides y = new EvenSides();
        y.door();
        for (int l = 0; l < 10; l++) {
            y.load(9, 1, 0, 1);
            y.drain(l, 9);
        }
        due("halves of ten", y.halves(1023, 0), 0);
        due("halves of ten", y.halves(1023, 1), 252);
        due("halves of ten", y.halves(1023, 2), 31);
        due("halves of an eleventh", y.halves(1024, 0), -2);
    }

    private static void p20() {
        EvenSides x = told("door;load 20 hard 0 1;load 18 soft 0 1;load 7 hard 0 1;load 99 hard 0 1;");
        int[][] want = {{7, 3, 1}, {7, 0, 1}, {7, 5, 0}, {3, 0, -1}, {3, 2, 0}, {3, 1, -1}, {4, 0, -1},
            {4, 2, 1}, {1, 0, 4}, {1, 99, 0}, {8, 1, 20}, {8, 0, -1}};
        for (int[] w : want) due("within(" + w[0] + ", " + w[1] + ")", x.within(w[0], w[1]), w[2]);
        x.put(0, 1);
        due("within of 99 stones", x.within(8, 0), 99);
        due("a way that is not the evenest", x.within(3, 0), 2);
        EvenSides y = told("door;load 99 hard 0 1;load 5 hard 0 1;load 7 hard 0 1;");
        y.put(0, 4);
        // 7 and 5 on one side are 12: three stones; on two sides they are 2: never.
        due("within(6, 0)", y.within(6, 0), 3);
        y.put(0, 1);
        EvenSides z = told("door;load 99 hard 0 1;");
        z.put(0, 1);
        due("within(1, 0)", z.within(1, 0), 99);
        due("within(1, 98)", z.within(1, 98), 1);
        int[][] bad = {{0, 0}, {2, 0}, {-1, 0}, {1, -1}, {1, 100}, {BIG, 5}, {1, BIG}};
        for (int[] b : bad) due("within", z.within(b[0], b[1]), -2);
    }

    private static void p21() {
        EvenSides x = told("door;mule 9 9 9;mule 9 9 9;load 5 hard 0 1;load 5 hard 0 1;");
        due("hang(1, 1, 0)", x.hang(1, 1, 0), -1);
        due("hang(1, 0, 1)", x.hang(1, 0, 1), 2);
        due("hang(1, -1, 0)", x.hang(1, -1, 0), 1);
        due("hang(1, -1, 1)", x.hang(1, -1, 1), -1);
        due("hang(1, 1, 1)", x.hang(1, 1, 1), -1);
        long before = x.digest();
        int[][] bad = {{2, 0, 0}, {-1, 0, 0}, {0, 2, 0}, {0, -2, 0}, {0, 0, 2}, {0, 0, -1}, {2, -1, 0},
            {BIG, 0, 0}, {0, BIG, 0}, {0, 0, BIG}, {0, LOW, 0}};
        for (int[] b : bad) refused(x, "hang", before, x.hang(b[0], b[1], b[2]), -10);
        due("hang(1, -1, 0)", x.hang(1, -1, 0), 3);
    }

    private static void p22and23() {
        EvenSides x = told("door;door;door;");
        due("line(2)", x.line(2), 1);
        due("line(1)", x.line(1), 2);
        long before = x.digest();
        refused(x, "line(2)", before, x.line(2), -3);
        refused(x, "line(1)", before, x.line(1), -3);
        for (int d : new int[] {0, 4, -1, BIG, LOW}) refused(x, "line", before, x.line(d), -2);
        due("line(3)", x.line(3), 3);
        due("unline()", x.unline(), 3);
        due("unline()", x.unline(), 0);
        due("count(3)", x.count(3), 0);
        due("line(2)", x.line(2), 1);
    }

    private static EvenSides hung(String day, String codes, String line) {
        EvenSides x = told(day);
        hangAll(x, codes);
        lineAll(x, line);
        return x;
    }

    private static final String THREE = "door;door;door;way 0 1 3;way 1 2 4;way 2 3 5;way 0 3 20;";

    private static void p24() {
        String day = THREE + "mule 30 9 9;load 20 hard 0 1;load 10 hard 0 2;load 15 hard 1 2;";
        EvenSides x = hung(day, "00", "12");
        due("borne() without a code", x.borne(), -3);
        x.hang(2, 0, 0);
        due("borne()", x.borne(), 1);
        x.lame(0, 0, 29);
        due("borne() by a side", x.borne(), 0);
        x.lame(0, 0, 30);
        due("borne()", x.borne(), 1);
        x.hang(1, 0, 1);
        x.lame(0, 1, 10);
        due("borne()", x.borne(), 1);
        x.lame(0, 1, 9);
        due("borne() by a side", x.borne(), 0);
        lineAll(x, "3");
        due("borne() on the way to 3", x.borne(), 0);
        x.unline();
        due("borne() without a leg", x.borne(), 1);
        x = hung(THREE + "mule 30 9 9;load 20 hard 0 1;load 11 hard 0 2;", "01", "12");
        due("borne() by most", x.borne(), 0);
        x.drain(1, 1);
        due("borne() by most", x.borne(), 0);
        x = hung(THREE + "mule 30 9 9;load 20 hard 0 2;load 11 hard 1 2;", "01", "12");
        due("borne() by most", x.borne(), 0);
        x.drain(1, 1);
        due("borne(), drained by one leg", x.borne(), 1);
        String four = "mule 99 9 9;load 1 hard 0 2;load 1 soft 0 2;load 1 hard 0 1;load 1 hard 1 2;";
        due("three at most", hung(THREE + four, "0000", "12").borne(), 1);
        due("three at most", hung(THREE + four, "0000", "21").borne(), 1);
        due("three at most", hung(THREE + four + "load 1 hard 1 3;", "00000", "123").borne(), 0);
        due("three at most", hung(THREE + four + "load 1 hard 1 3;", "00001", "123").borne(), 1);
        due("no loads", new EvenSides().borne(), 1);
    }

    private static void p25() {
        String day = THREE + "mule 99 9 9;mule 99 9 9;load 20 hard 0 1;load 18 hard 0 2;load 7 hard 1 2;";
        EvenSides x = hung(day, "01", "12");
        due("worst() without a code", x.worst(), -3);
        x.hang(2, 0, 1);
        due("worst()", x.worst(), 25);
        x.hang(2, 0, 0);
        due("worst()", x.worst(), 11);
        x.hang(2, 1, 1);
        due("worst()", x.worst(), 18);
        lineAll(x, "1");
        due("worst()", x.worst(), 2);
        lineAll(x, "21");
        // 20 stays to the second leg, 18 comes off at the first, 7 does not come on at all.
        due("worst()", x.worst(), 20);
        lineAll(x, "123");
        due("worst()", x.worst(), 18);
        x.drain(1, 9);
        due("worst(), drained", x.worst(), 9);
        x.drain(0, 9);
        lineAll(x, "231");
        due("worst(), drained to 2", x.worst(), 11);
        x.unline();
        due("worst() without a leg", x.worst(), 0);
        due("worst() of nothing", new EvenSides().worst(), 0);
        // A load to a place ahead in the line, or to the house, stays on.
        due("worst()", hung(THREE + "mule 9 9 9;load 5 hard 2 1;", "0", "123").worst(), 5);
        due("worst()", hung(THREE + "mule 9 9 9;load 5 hard 2 0;", "0", "123").worst(), 5);
        due("worst()", hung(THREE + "mule 9 9 9;load 5 hard 3 1;", "0", "123").worst(), 0);
        due("worst()", hung(THREE + "mule 9 9 9;load 5 hard 3 1;", "0", "12").worst(), 0);
    }

    private static void p26() {
        String day = THREE + "mule 99 2 9;mule 99 7 9;load 20 hard 0 1;load 18 hard 0 2;load 7 hard 1 3;";
        EvenSides x = hung(day, "01", "123");
        due("longer() without a code", x.longer(), -3);
        x.hang(2, 1, 0);
        due("longer()", x.longer(), 4);
        x.hang(2, 0, 0);
        due("longer()", x.longer(), 9);
        x.hang(1, 1, 0);
        due("longer()", x.longer(), 12);
        due("longer() of nothing", new EvenSides().longer(), 0);
        EvenSides y = hung(THREE + "mule 99 2 9;load 2 hard 0 3;", "0", "321");
        due("longer()", y.longer(), 0);
        due("longer()", hung(THREE + "mule 99 2 9;load 3 hard 0 3;", "0", "321").longer(), 20);
    }

    private static void p27() {
        String day = THREE + "mule 100 5 3;load 20 hard 0 1;load 18 soft 0 2;load 7 hard 1 2;";
        EvenSides x = told(day);
        lineAll(x, "12");
        int[] want = {11, 0, 1, 0};
        for (int what = -1; what < 3; what++) due("stays(" + what + ")", x.stays(what), want[what + 1]);
        for (int what : new int[] {-2, 3, BIG, LOW}) due("stays", x.stays(what), -10);
        x.lame(0, 0, 19);
        due("stays(0)", x.stays(0), 1);
        x.lame(0, 1, 19);
        due("stays(-1)", x.stays(-1), -5);
        due("stays(2)", x.stays(2), -5);
        due("stays(3)", x.stays(3), -10);
        EvenSides none = told("door;load 5 hard 0 1;");
        due("stays(-1) without a mule", none.stays(-1), -5);
        due("stays(0) without a mule", none.stays(0), -5);
        due("stays(-1) of nothing", new EvenSides().stays(-1), 0);
        EvenSides y = manyLoads("mule 999 9 9;mule 999 9 9;", 6);
        due("stays(-1) of 4096", y.stays(-1), 0);
        y.load(1, 1, 0, 1);
        due("stays(-1) of 16384", y.stays(-1), -20);
        due("stays(7) of 16384", y.stays(7), -10);
        y = manyLoads("mule 999 9 9;", 10);
        due("stays(-1) of 1024, three at most on a side", y.stays(-1), -5);
        y.unline();
        due("stays(-1) of 1024", y.stays(-1), 0);
        due("stays(9) of 1024", y.stays(9), 0);
        y = manyLoads("mule 999 9 9;mule 999 9 9;mule 999 9 9;", 4);
        due("stays(-1) of 1296", y.stays(-1), 0);
        y.load(1, 1, 0, 1);
        due("stays(-1) of 7776", y.stays(-1), -20);
    }

    private static EvenSides manyLoads(String mules, int many) {
        EvenSides x = told(THREE + mules);
        for (int l = 0; l < many; l++) x.load(4, 1, 0, 1);
        x.line(1);
        return x;
    }

    private static void p28() {
        EvenSides x = told(THREE + "mule 100 5 3;load 20 hard 0 1;load 18 soft 0 2;load 7 hard 1 2;");
        lineAll(x, "21");
        due("best(-1)", x.best(-1), 11);
        due("best(0)", x.best(0), 1);
        due("best(1)", x.best(1), 2);
        due("best(10)", x.best(10), 7);
        for (int what : new int[] {-2, 2, 3, 9, 11, BIG, LOW}) due("best(" + what + ")", x.best(what), -10);
        due("the line stays", x.line(1), -3);
        x.line(3);
        due("best(2), by fewer miles", x.best(2), 2);
        due("best(10)", x.best(10), 9);
        // Without loads all are alike: the fewest miles, then the first row.
        EvenSides y = told("door;door;door;way 0 1 5;way 0 3 4;way 1 2 2;");
        lineAll(y, "321");
        int[] want = {2, 3, 1};
        for (int what = 0; what < 3; what++) due("best(" + what + ")", y.best(what), want[what]);
        y.way(0, 3, 1);
        due("best(10)", y.best(10), 3);
        due("best(0)", y.best(0), 2);
        due("best(1)", y.best(1), 3);
        due("best(2)", y.best(2), 1);
        y.way(0, 1, 1);
        y.way(1, 2, 1);
        for (int what = 0; what < 3; what++) due("best(" + what + ") of like ones", y.best(what), what + 1);
        y.unline();
        due("best(-1) of no line", y.best(-1), 0);
        due("best(10) of no line", y.best(10), 0);
        due("best(0) of no line", y.best(0), -10);
        // An order may be borne where another is not.
        EvenSides z = told(THREE + "mule 10 9 9;load 6 hard 0 1;load 6 hard 2 3;");
        lineAll(z, "213");
        due("not borne", z.stays(-1), -5);
        due("best(-1)", z.best(-1), 6);
        due("best(0)", z.best(0), 1);
        due("best(10)", z.best(10), 9);
        z.lame(0, 0, 5);
        z.lame(0, 1, 5);
        due("best(-1) none", z.best(-1), -5);
        due("best(10) none", z.best(10), -5);
        due("best(3) bad", z.best(3), -10);
        EvenSides many = manyLoads("mule 999 9 9;mule 999 9 9;", 7);
        due("best of 16384", many.best(-1), -20);
        due("bad of 16384", many.best(1), -10);
    }

    private static void p29() {
        EvenSides x = hung(THREE + "mule 9 9 9;load 20 hard 0 1;load 18 soft 0 2;load 7 hard 1 2;", "01", "12");
        due("liftings() without a code", x.liftings(), -3);
        x.hang(2, 0, 1);
        due("liftings()", x.liftings(), 7);
        x.hang(2, 0, 0);
        due("liftings()", x.liftings(), 6);
        // One that comes off first is better put on top, though it came on first.
        due("put below", hung(THREE + "mule 9 9 9;load 1 hard 0 1;load 1 hard 0 2;", "00", "12").liftings(), 5);
        due("put on top", hung(THREE + "mule 9 9 9;load 1 hard 0 2;load 1 hard 0 1;", "00", "12").liftings(), 4);
        String soft = "mule 9 9 9;load 1 soft 0 3;load 1 hard 0 1;load 1 hard 0 2;";
        due("hard ones below", hung(THREE + soft, "000", "123").liftings(), 1 + 2 + 2 + 3 + 2 + 1);
        String four = "mule 9 9 9;load 1 hard 0 2;load 1 hard 0 2;load 1 hard 0 2;load 1 hard 0 3;";
        due("four on a side", hung(THREE + four, "0000", "123").liftings(), -1);
        due("four on a side that never come off", hung(THREE + four, "0000", "1").liftings(), -1);
        due("three and one", hung(THREE + four, "0001", "12").liftings(), 1 + 1 + 1 + 1 + 3 + 2 + 1);
        due("three and one", hung(THREE + four, "0001", "1").liftings(), 4);
        due("off first, then on", hung(THREE + "mule 9 9 9;load 1 hard 1 2;load 1 hard 0 1;load 1 hard 0 1;"
            + "load 1 hard 0 1;", "0000", "12").liftings(), 3 + 6 + 1 + 1);
        due("without a leg", hung(THREE + four, "0000", "").liftings(), 0);
        due("of nothing", new EvenSides().liftings(), 0);
    }

    private static void p30() {
        EvenSides x = hung(THREE + "mule 9 5 9;load 20 hard 0 1;load 18 soft 0 2;load 7 hard 1 2;", "01", "12");
        due("fewest() without a code", x.fewest(), -3);
        x.hang(2, 0, 1);
        due("fewest()", x.fewest(), 4);
        x.put(0, 10);
        due("fewest()", x.fewest(), 2);
        x.put(0, 12);
        due("fewest()", x.fewest(), 2);
        x.put(0, 13);
        due("fewest()", x.fewest(), 2);
        x.put(0, 2);
        due("fewest() above nine", x.fewest(), -1);
        x.put(0, 20);
        due("fewest()", x.fewest(), 1);
        // From one side to the other: off and on.
        EvenSides y = hung(THREE + "mule 9 0 9;load 10 hard 0 1;load 15 hard 1 2;", "01", "12");
        due("fewest() over", y.fewest(), 2 + 5);
        y.put(0, 4);
        due("fewest() not even", y.fewest(), -1);
        EvenSides z = hung(THREE + "mule 9 0 9;mule 9 0 9;load 10 hard 0 1;load 15 hard 1 2;", "03", "123");
        due("fewest() of two mules, off again", z.fewest(), 2 + 2 + 3 + 3);
        due("stones at places are not looked at", z.stones(0, 0), 0);
        z.lame(0, 1, 0);
        due("nor what sides bear", z.fewest(), 10);
        due("of nothing", new EvenSides().fewest(), 0);
        due("nine", hung("door;mule 9 0 9;load 45 hard 0 1;", "0", "1").fewest(), 9);
        due("ten", hung("door;mule 9 0 9;load 50 hard 0 1;", "0", "1").fewest(), -1);
        due("no leg", hung("door;mule 9 0 9;load 50 hard 0 1;", "0", "").fewest(), 0);
        // To stay with a stone that is not needed may be the fewest.
        due("keeps them", hung(THREE + "mule 9 5 9;load 9 hard 0 1;load 9 hard 2 3;", "00", "123").fewest(), 1);
    }

    private static void p31() {
        EvenSides x = hung(THREE + "mule 99 5 9;load 20 hard 0 1;load 18 soft 0 2;load 7 hard 1 2;", "01", "12");
        refused(x, "chance() without a code", x.digest(), x.chance(), -3);
        x.hang(2, 0, 1);
        due("chance()", x.chance(), 1);
        fraction(x, 0, 1);
        x.ask(0, 35);
        due("chance()", x.chance(), 1);
        fraction(x, 13, 20);
        x.ask(0, 0);
        due("chance()", x.chance(), 1);
        fraction(x, 1, 1);
        x.ask(0, 100);
        due("chance()", x.chance(), 1);
        fraction(x, 0, 1);
        x.ask(0, 1);
        due("chance()", x.chance(), 1);
        fraction(x, 99, 100);
        // Those that come off at the last door matter for none, but count among six.
        x.ask(1, 50);
        x.ask(2, 50);
        due("chance()", x.chance(), 1);
        fraction(x, 99, 100);
        sixUnsure(7, -3);
        sixUnsure(6, 1);
    }

    private static void sixUnsure(int many, int want) {
        EvenSides x = told(THREE + "mule 99 0 9;mule 99 0 9;");
        for (int l = 0; l < 8; l++) {
            x.load(1, 1, 0, l < 4 ? 1 : 2);
            x.hang(l, l % 2, l / 2 % 2);
            x.ask(l, l < many ? 33 : l % 2 * 100);
        }
        lineAll(x, "12");
        long before = x.digest();
        due("chance() with " + many + " unsure", x.chance(), want);
        if (want == 1) {
            // Each mule's pair of loads to door 1 comes off together, or stays together.
            long together = 33 * 33 + 67 * 67;
            due("above", x.part(0) * 100000000L, together * together * x.part(1));
        } else {
            due("unchanged", x.digest(), before);
        }
    }

    private static void p32() {
        EvenSides x = told(THREE + "mule 99 5 9;load 20 hard 0 1;load 18 soft 0 2;load 7 hard 1 2;ask 0 40;");
        lineAll(x, "12");
        int[] want = {0, 1, 1};
        for (int l = 0; l < 3; l++) {
            due("keep(" + l + ")", x.keep(l), want[l]);
            fraction(x, 3, 5);
        }
        long before = x.digest();
        for (int l : new int[] {-1, 3, BIG, LOW}) refused(x, "keep", before, x.keep(l), -10);
        x.lame(0, 0, 17);
        x.lame(0, 1, 17);
        refused(x, "keep, none borne", x.digest(), x.keep(0), -5);
        EvenSides y = manyLoads("mule 999 9 9;mule 999 9 9;", 7);
        refused(y, "keep of 16384", y.digest(), y.keep(0), -20);
        refused(y, "bad of 16384", y.digest(), y.keep(7), -10);
        EvenSides z = manyLoads("mule 999 9 9;", 7);
        for (int l = 0; l < 7; l++) z.ask(l, 50);
        refused(z, "keep of 7 unsure", z.digest(), z.keep(0), -20);
        z.ask(3, 100);
        due("keep of 6 unsure, seven on two sides", z.keep(0), -5);
        EvenSides w = told("door;load 5 hard 0 1;");
        refused(w, "keep without a mule", w.digest(), w.keep(0), -5);
        // Like ones: the first row; none is even at any time.
        EvenSides v = told(THREE + "mule 99 0 9;load 5 hard 0 2;load 4 hard 0 2;");
        lineAll(v, "12");
        due("keep(0)", v.keep(0), 0);
        due("keep(1)", v.keep(1), 0);
        fraction(v, 0, 1);
    }

    private static void p33() {
        EvenSides x = told("door;mule 99 5 9;mule 99 5 9;load 20 hard 0 1;load 18 hard 0 1;load 7 hard 0 1;"
            + "load 9 hard 1 0;");
        hangAll(x, "011");
        due("alone without a code", x.alone(0, 99, -1), -20);
        due("bad without a code", x.alone(0, 1000, -1), -10);
        x.hang(3, 0, 0);
        int[][] want = {{20, -1, 4}, {20, 0, 0}, {20, 1, 1}, {20, 2, 2}, {20, 3, -5}, {20, BIG, -5}, {13, -1, 1},
            {13, 0, 2}, {13, 1, 0}, {13, 2, 1}, {12, -1, 0}, {12, 0, -5}, {0, -1, 0}, {25, -1, 6}, {24, -1, 4},
            {999, -1, 6}, {18, 0, 1}, {18, 1, 0}};
        for (int[] w : want) due("alone(0, " + w[0] + ", " + w[1] + ")", x.alone(0, w[0], w[1]), w[2]);
        due("alone of none", x.alone(1, 0, -1), 1);
        due("alone of none", x.alone(1, 0, 0), -5);
        int[][] bad = {{2, 5, -1}, {-1, 5, -1}, {0, -1, -1}, {0, 1000, -1}, {0, 5, -2}, {BIG, 5, -1},
            {0, BIG, -1}, {0, 5, LOW}};
        for (int[] b : bad) due("alone", x.alone(b[0], b[1], b[2]), -10);
        EvenSides y = told("door;mule 99 5 9;load 1 soft 0 1;load 1 hard 0 1;load 1 soft 0 1;");
        hangAll(y, "000");
        due("soft above hard", y.alone(0, 99, -1), 2);
        due("hard first", y.alone(0, 99, 0), 1);
        due("then soft", y.alone(0, 99, 1), 0);
        due("then soft", y.alone(0, 99, 2), 2);
        y.load(1, 0, 0, 1);
        y.hang(3, 0, 0);
        due("four on a side", y.alone(0, 99, -1), 0);
        due("four on a side", y.alone(0, 99, 0), -5);
        y.hang(3, 0, 1);
        due("three and one", y.alone(0, 99, -1), 8);
        EvenSides z = told("door;mule 9 9 9;load 1 hard 0 1;load 1 hard 0 1;load 1 hard 0 1;load 1 hard 0 1;"
            + "load 1 hard 0 1;load 1 hard 0 1;");
        hangAll(z, "010101");
        due("six", z.alone(0, 99, -1), 720);
        due("six by turns", z.alone(0, 1, -1), 6 * 6 * 8);
        due("even at all times", z.alone(0, 0, -1), 0);
    }

    private static void p34() {
        EvenSides x = new EvenSides();
        fraction(x, 0, 1);
        for (int what : new int[] {-1, 2, BIG, LOW}) due("part", x.part(what), -1);
        x.chance();
        fraction(x, 1, 1);
    }

    private static void p35and36() {
        EvenSides x = told(DAY);
        type(x, 1, "go 1;");
        x.put(0, 7);
        hangAll(x, "01");
        x.line(2);
        for (int i : new int[] {-1, 2, BIG, LOW}) {
            refused(x, "image", x.digest(), x.image(i), -2);
            refused(x, "from", x.digest(), x.from(i), -2);
        }
        long first = x.digest();
        due("image(1)", x.image(1), 1);
        due("image keeps", x.digest(), first);
        refused(x, "from(0)", first, x.from(0), -3);
        x.hang(0, -1, 0);
        x.line(1);
        x.put(0, 8);
        x.put(1, 8);
        x.way(0, 1, 88);
        x.ford(1);
        x.stones(1, 8);
        x.lame(1, 1, 8);
        x.ask(0, 8);
        x.drain(0, 8);
        x.clear(0);
        type(x, 1, "go 2;");
        x.door();
        x.mule(8, 8, 8);
        x.load(8, 1, 0, 3);
        long second = x.digest();
        due("image(0)", x.image(0), 1);
        due("from(1)", x.from(1), 1);
        due("all as it was", x.digest(), first);
        due("from(0)", x.from(0), 1);
        due("all as it was", x.digest(), second);
        due("from(1) again", x.from(1), 1);
        due("all as it was", x.digest(), first);
        due("run goes on from it", x.run(4), 1);
        x.hang(2, 0, 0);
        x.hang(3, 0, 0);
        x.hang(4, 0, 0);
        due("chance()", x.chance(), 1);
        long above = x.part(0), below = x.part(1);
        x.image(1);
        EvenSides y = told("");
        y.image(0);
        y.chance();
        fraction(y, 1, 1);
        y.from(0);
        fraction(y, 1, 1);
        x.from(0);
        fraction(x, above, below);
        x.clear(0);
        x.day();
        due("images stay behind a day", x.from(0), 1);
        due("count(2)", x.count(2), 6);
    }

    private static void p37() {
        EvenSides x = told(DAY);
        type(x, 1, "go");
        x.line(2);
        int[] want = {2, 2, 5, 1, DAY.length(), 2};
        for (int what = 0; what <= 5; what++) due("count(" + what + ")", x.count(what), want[what]);
        for (int what : new int[] {-1, 6, BIG, LOW}) due("count", x.count(what), -2);
    }

    private static long mix(long... row) {
        long h = 503;
        for (long v : row) h = 31 * h + v;
        return h;
    }

    private static void p38() {
        due("digest() of a new one", new EvenSides().digest(), mix(0, 0, 0, 0, 0, 0, 0, 0, 5, 2, 0, 1));
        EvenSides x = new EvenSides();
        x.door();
        x.door();
        x.way(0, 1, 11);
        x.way(0, 2, 12);
        x.way(1, 2, 13);
        x.ford(2);
        x.stones(0, 4);
        x.stones(1, 6);
        x.mule(70, 8, 9);
        x.mule(71, 18, 19);
        x.lame(0, 1, 44);
        x.load(33, 1, 2, 1);
        x.load(34, 0, 0, 2);
        x.ask(0, 66);
        x.drain(1, 3);
        x.hang(1, 1, 1);
        x.put(0, 17);
        x.put(1, 6);
        x.line(2);
        x.line(1);
        type(x, 0, "ab\u00ff");
        type(x, 1, "c");
        due("digest()", x.digest(), mix(2, 2, 2, 2, 3, 1,
            0, 4, 11, 0, 6, 12, 13, 1, 0,
            70, 8, 9, 999, 44, 71, 18, 19, 999, 999,
            33, 1, 2, 1, 66, 0, -1, 34, 0, 0, 2, 100, 3, 3,
            17, 6, 2, 1, 97, 98, 255, 99, 0, 1));
        EvenSides y = told("door;door;mule 9 0 9;load 3 hard 0 1;load 3 hard 0 1;ask 0 35;ask 1 0;");
        hangAll(y, "01");
        lineAll(y, "12");
        y.clear(0);
        y.chance();
        due("digest() with a fraction", y.digest(), mix(2, 1, 2, 2, 0, 0,
            0, 0, 1, 0, 0, 1, 1, 0, 0, 9, 0, 9, 999, 999,
            3, 1, 0, 1, 35, 0, 0, 3, 1, 0, 1, 0, 0, 1, 5, 2, 1, 2, 13, 20));
    }

    private interface Check {
        void run();
    }

    private static void on(String name, Check check) {
        promise = "promise " + name;
        check.run();
    }

    public static void main(String[] args) {
        on("1", PromisesTest::p1);
        on("2", PromisesTest::p2);
        on("3", PromisesTest::p3);
        on("4", PromisesTest::p4);
        on("5", PromisesTest::p5);
        on("6", PromisesTest::p6);
        on("7", PromisesTest::p7);
        on("8", PromisesTest::p8);
        on("9", PromisesTest::p9);
        on("10", PromisesTest::p10);
        on("11", PromisesTest::p11);
        on("12", PromisesTest::p12);
        on("13", PromisesTest::p13);
        on("14", PromisesTest::p14);
        on("15", PromisesTest::p15);
        on("16", PromisesTest::p16);
        on("17", PromisesTest::p17);
        on("18", PromisesTest::p18);
        on("19", PromisesTest::p19);
        on("20", PromisesTest::p20);
        on("21", PromisesTest::p21);
        on("22, 23", PromisesTest::p22and23);
        on("24", PromisesTest::p24);
        on("25", PromisesTest::p25);
        on("26", PromisesTest::p26);
        on("27", PromisesTest::p27);
        on("28", PromisesTest::p28);
        on("29", PromisesTest::p29);
        on("30", PromisesTest::p30);
        on("31", PromisesTest::p31);
        on("32", PromisesTest::p32);
        on("33", PromisesTest::p33);
        on("34", PromisesTest::p34);
        on("35, 36", PromisesTest::p35and36);
        on("37", PromisesTest::p37);
        on("38", PromisesTest::p38);
        System.out.println(wrong == 0 ? "all promises hold" : wrong + " answers are not as due");
        if (wrong != 0) System.exit(1);
    }
}
