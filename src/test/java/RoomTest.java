import java.lang.management.ManagementFactory;

/** No call makes an object, and the dearest calls end soon: all calls of a run live in one room. */
public final class RoomTest {
    private static int wrong = 0;
    private static long sum = 0;

    private static void check(boolean right, String what) {
        if (right) return;
        wrong++;
        System.out.println("wrong: " + what);
    }

    private static long allocated() {
        com.sun.management.ThreadMXBean bean = (com.sun.management.ThreadMXBean) ManagementFactory.getThreadMXBean();
        return bean.getCurrentThreadAllocatedBytes();
    }

    private static void type(EvenSides x, int text, String words) {
        for (int i = 0; i < words.length(); i++) sum += x.type(text, words.charAt(i), 1);
    }

    /** Five doors, two mules and six loads with all their hangings: the dearest day. */
    private static EvenSides dearest() {
        EvenSides x = new EvenSides();
        type(x, 0, "door;door;door;door;door;mule 999 3 9;mule 999 3 9;");
        sum += x.day();
        for (int l = 0; l < 6; l++) {
            x.load(50 + 7 * l, 0, 0, 1 + l % 5);
            x.hang(l, l % 2, l / 2 % 2);
            x.ask(l, 50 + l);
            x.drain(l, l);
        }
        for (int d = 5; d >= 1; d--) x.line(d);
        for (int i = 0; i < 10; i++) type(x, 1, "hang 0 0 0;go 1;take 0 0;");
        return x;
    }

    private static void callAll(EvenSides x) {
        for (int what = -1; what <= 10; what++) {
            sum += x.run(what) + x.side(0, 0, what) + x.where(what) + x.stays(what) + x.best(what);
            sum += x.halves(63, what) + x.within(63, what) + x.keep(what) + x.alone(0, 999, what);
        }
        sum += x.fault(0) + x.fault(1) + x.borne() + x.worst() + x.longer() + x.liftings() + x.fewest();
        sum += x.chance() + x.image(0) + x.from(0) + x.digest() + x.clear(1) + x.day() + x.unline();
    }

    public static void main(String[] args) {
        long first = allocated();
        new EvenSides();
        callAll(dearest());
        first = allocated();
        EvenSides x = new EvenSides();
        long made = allocated() - first;
        check(made < 40000, "an object takes " + made + " bytes");
        x = dearest();
        first = allocated();
        long asking = allocated() - first;
        first = allocated();
        callAll(x);
        long calls = allocated() - first - asking;
        check(calls < 2000, "calls made " + calls + " bytes of objects");
        System.out.println(wrong == 0 ? "an object takes " + made + " bytes, its calls none" : "it takes too much room");
        if (wrong != 0) System.exit(1);
        if (sum == 0) System.out.println();
    }
}
