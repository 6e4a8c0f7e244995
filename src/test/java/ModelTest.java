import java.math.BigInteger;
import java.nio.charset.StandardCharsets;
import java.util.ArrayList;
import java.util.Arrays;
import java.util.List;
import java.util.Random;
import java.util.regex.Matcher;
import java.util.regex.Pattern;

/**
 * Random runs of calls on the class and on a slow, plain model beside it, which tries everything
 * where the class searches. The seed is fixed: each run of the test makes the same calls.
 */
public final class ModelTest {
    private static final int NONE = -1, BAD = -2, NO = -3, FULL = -4;

    static final class Mule {
        int most, even, longest;
        int[] bears = {999, 999};

        Mule copy() {
            Mule m = new Mule();
            m.most = most;
            m.even = even;
            m.longest = longest;
            m.bears = bears.clone();
            return m;
        }
    }

    static final class Load {
        int weight, hard, from, to, asked = 100, drain, code = NONE;

        Load copy() {
            Load l = new Load();
            l.weight = weight;
            l.hard = hard;
            l.from = from;
            l.to = to;
            l.asked = asked;
            l.drain = drain;
            l.code = code;
            return l;
        }

        int behind(int goings) {
            return Math.max(weight - drain * goings, 0);
        }
    }

    static final class World {
        int doors;
        int[][] miles = new int[6][6];
        boolean[] ford = new boolean[6];
        int[] stones = new int[6];
        List<Mule> mules = new ArrayList<>();
        List<Load> loads = new ArrayList<>();
        List<Integer> line = new ArrayList<>();
        int stone = 5, lift = 2;
        String[] text = {"", ""};

        World() {
            for (int[] row : miles) Arrays.fill(row, 1);
        }

        World copy() {
            World w = new World();
            w.doors = doors;
            for (int i = 0; i < 6; i++) w.miles[i] = miles[i].clone();
            w.ford = ford.clone();
            w.stones = stones.clone();
            for (Mule m : mules) w.mules.add(m.copy());
            for (Load l : loads) w.loads.add(l.copy());
            w.line.addAll(line);
            w.stone = stone;
            w.lift = lift;
            w.text = text.clone();
            return w;
        }
    }

    /** The model. Its calls are named as the class's, and are called through call(). */
    static final class Model {
        World w = new World();
        World[] images = new World[2];
        BigInteger above = BigInteger.ZERO, below = BigInteger.ONE;
        List<int[]> items;

        static boolean in(int v, int a, int b) {
            return a <= v && v <= b;
        }

        boolean place(int p) {
            return in(p, 0, w.doors);
        }

        boolean side(int m, int s) {
            return in(m, 0, w.mules.size() - 1) && in(s, 0, 1);
        }

        int door() {
            return w.doors == 5 ? FULL : ++w.doors;
        }

        int way(int a, int b, int far) {
            if (!place(a) || !place(b) || a == b || !in(far, 1, 99)) return BAD;
            int was = w.miles[a][b];
            w.miles[a][b] = w.miles[b][a] = far;
            return was;
        }

        int ford(int d) {
            if (!place(d) || d == 0) return BAD;
            if (w.ford[d]) return NO;
            w.ford[d] = true;
            return 1;
        }

        int stones(int p, int n) {
            if (!place(p) || !in(n, 0, 9)) return BAD;
            int was = w.stones[p];
            w.stones[p] = n;
            return was;
        }

        int mule(int most, int even, int longest) {
            if (!in(most, 1, 999) || !in(even, 0, 99) || !in(longest, 0, 99)) return BAD;
            if (w.mules.size() == 3) return FULL;
            Mule m = new Mule();
            m.most = most;
            m.even = even;
            m.longest = longest;
            w.mules.add(m);
            return w.mules.size() - 1;
        }

        int lame(int m, int s, int bears) {
            if (!side(m, s) || !in(bears, 0, 999)) return BAD;
            int was = w.mules.get(m).bears[s];
            w.mules.get(m).bears[s] = bears;
            return was;
        }

        int load(int weight, int hard, int from, int to) {
            if (!in(weight, 1, 99) || !in(hard, 0, 1) || !place(from) || !place(to) || from == to) return BAD;
            if (w.loads.size() == 10) return FULL;
            Load l = new Load();
            l.weight = weight;
            l.hard = hard;
            l.from = from;
            l.to = to;
            w.loads.add(l);
            return w.loads.size() - 1;
        }

        boolean isLoad(int l) {
            return in(l, 0, w.loads.size() - 1);
        }

        int ask(int l, int asked) {
            if (!isLoad(l) || !in(asked, 0, 100)) return BAD;
            int was = w.loads.get(l).asked;
            w.loads.get(l).asked = asked;
            return was;
        }

        int drain(int l, int drain) {
            if (!isLoad(l) || !in(drain, 0, 9)) return BAD;
            int was = w.loads.get(l).drain;
            w.loads.get(l).drain = drain;
            return was;
        }

        int put(int what, int v) {
            if (!in(what, 0, 1) || !in(v, 1, what == 0 ? 20 : 9)) return BAD;
            int was = what == 0 ? w.stone : w.lift;
            if (what == 0) w.stone = v;
            else w.lift = v;
            return was;
        }

        int type(int t, long v, int n) {
            if (!in(t, 0, 1) || !in(n, 1, 8)) return BAD;
            if (w.text[t].length() + n > 240) return FULL;
            byte[] all = BigInteger.valueOf(v).and(BigInteger.ONE.shiftLeft(64).subtract(BigInteger.ONE))
                .add(BigInteger.ONE.shiftLeft(64)).toByteArray();
            w.text[t] += new String(all, all.length - n, n, StandardCharsets.ISO_8859_1);
            return w.text[t].length();
        }

        int clear(int t) {
            if (!in(t, 0, 1)) return BAD;
            int had = w.text[t].length();
            w.text[t] = "";
            return had;
        }

        static final Pattern TOKEN = Pattern.compile(" *(?:([a-z]+)|([0-9]+)|(;)|(\\z)|([^ ]))", Pattern.DOTALL);
        static final String[][] FORMS = {
            {"mule # # #", "load # ! # #", "door", "way # # #", "lame # # #", "ford #", "ask # #",
                "drain # #", "stones # #"},
            {"hang # # #", "take # #", "over # #", "swap # # # #", "stone # #", "drop # #", "go #"}};

        int fault(int t) {
            if (!in(t, 0, 1)) return BAD;
            items = new ArrayList<>();
            Matcher m = TOKEN.matcher(w.text[t]);
            String[] form = null;
            int[] item = null;
            int k = 0;
            while (m.lookingAt()) {
                int at = m.group(1) != null ? m.start(1) : m.group(2) != null ? m.start(2)
                    : m.group(3) != null ? m.start(3) : m.group(5) != null ? m.start(5) : w.text[t].length();
                String token = w.text[t].substring(at, m.end());
                if (form == null) {
                    if (token.isEmpty()) return NONE;
                    for (int f = 0; f < FORMS[t].length; f++) {
                        String[] tried = FORMS[t][f].split(" ");
                        if (tried[0].equals(token)) {
                            form = tried;
                            item = new int[] {f, 0, 0, 0, 0};
                            k = 1;
                        }
                    }
                    if (form == null) return at;
                } else if (k < form.length) {
                    if (form[k].equals("#") && token.matches("[0-9]{1,3}")) item[k] = Integer.parseInt(token);
                    else if (form[k].equals("!") && token.equals("hard")) item[k] = 1;
                    else if (form[k].equals("!") && token.equals("soft")) item[k] = 0;
                    else return at;
                    k++;
                } else {
                    if (!token.equals(";")) return at;
                    items.add(item);
                    form = null;
                }
                m.region(m.end(), w.text[t].length());
            }
            throw new IllegalStateException();
        }

        int day() {
            int f = fault(0);
            if (f != NONE) return -10 - f;
            World was = w;
            w = new World();
            w.stone = was.stone;
            w.lift = was.lift;
            w.text = was.text.clone();
            int n = 0;
            for (int[] i : items) {
                if (tell(i) < 0) {
                    w = was;
                    return -1000 - n;
                }
                n++;
            }
            return n;
        }

        int tell(int[] i) {
            return switch (i[0]) {
                case 0 -> mule(i[1], i[2], i[3]);
                case 1 -> load(i[1], i[2], i[3], i[4]);
                case 2 -> door();
                case 3 -> way(i[1], i[2], i[3]);
                case 4 -> lame(i[1], i[2], i[3]);
                case 5 -> ford(i[1]);
                case 6 -> ask(i[1], i[2]);
                case 7 -> drain(i[1], i[2]);
                default -> stones(i[1], i[2]);
            };
        }

        // ---- acts

        int right, why, far, minutes, here, goings;
        int[] lie, sore, ground;
        List<List<Integer>> piles;
        int[] onSide;

        int weighs(int code) {
            int sum = onSide[code] * w.stone;
            for (int l : piles.get(code)) sum += w.loads.get(l).behind(goings);
            return sum;
        }

        boolean acted() {
            if (fault(1) != NONE) return false;
            right = why = far = minutes = here = goings = 0;
            lie = new int[w.loads.size()];
            for (int l = 0; l < lie.length; l++) lie[l] = w.loads.get(l).from;
            sore = new int[3];
            ground = w.stones.clone();
            onSide = new int[6];
            piles = new ArrayList<>();
            for (int c = 0; c < 6; c++) piles.add(new ArrayList<>());
            for (int[] i : items) {
                why = act(i);
                if (why != 0) break;
                right++;
                if (i[0] != 6) minutes += w.lift;
            }
            return true;
        }

        int act(int[] i) {
            if (i[0] == 6) return go(i[1]);
            int load = NONE, source = NONE, target = NONE;
            if (i[0] == 0) {
                if (!isLoad(i[1]) || !side(i[2], i[3])) return 1;
                load = i[1];
                target = 2 * i[2] + i[3];
                if (lie[load] != here) return 2;
            } else {
                if (!side(i[1], i[2])) return 1;
                source = 2 * i[1] + i[2];
                if (i[0] == 2) target = source ^ 1;
                if (i[0] == 3) {
                    if (!side(i[3], i[4])) return 1;
                    target = 2 * i[3] + i[4];
                    if (source == target) return 1;
                }
                if (i[0] == 4) {
                    if (ground[here] == 0) return 2;
                    if (weighs(source) + w.stone > w.mules.get(source / 2).bears[source % 2]) return 5;
                    if (weighs(source) + weighs(source ^ 1) + w.stone > w.mules.get(source / 2).most) return 5;
                    ground[here]--;
                    onSide[source]++;
                    return 0;
                }
                if (i[0] == 5) {
                    if (onSide[source] == 0) return 2;
                    onSide[source]--;
                    ground[here]++;
                    return 0;
                }
                List<Integer> pile = piles.get(source);
                if (pile.isEmpty()) return 2;
                load = pile.get(pile.size() - 1);
            }
            if (target != NONE) {
                List<Integer> pile = piles.get(target);
                Load it = w.loads.get(load);
                if (pile.size() == 3) return 3;
                if (it.hard == 1 && !pile.isEmpty() && w.loads.get(pile.get(pile.size() - 1)).hard == 0) return 4;
                Mule m = w.mules.get(target / 2);
                if (weighs(target) + it.behind(goings) > m.bears[target % 2]) return 5;
                int all = weighs(target) + weighs(target ^ 1) + it.behind(goings);
                if (source == (target ^ 1)) all -= it.behind(goings);
                if (all > m.most) return 5;
                pile.add(load);
                lie[load] = 10 + target;
            } else {
                lie[load] = here;
            }
            if (source != NONE) piles.get(source).remove((Integer) load);
            return 0;
        }

        int go(int d) {
            if (!place(d) || d == here) return 1;
            for (List<Integer> pile : piles) {
                if (w.ford[d] && !pile.isEmpty() && w.loads.get(pile.get(0)).hard == 0) return 7;
            }
            for (int k = 0; k < w.miles[here][d]; k++) {
                far++;
                boolean over = false;
                for (int m = 0; m < w.mules.size(); m++) {
                    int uneven = Math.abs(weighs(2 * m) - weighs(2 * m + 1));
                    if (uneven > w.mules.get(m).even) sore[m]++;
                    else sore[m] = 0;
                    over |= sore[m] > w.mules.get(m).longest;
                }
                if (over) return 6;
            }
            here = d;
            goings++;
            return 0;
        }

        int run(int what) {
            if (!in(what, 0, 5)) return BAD;
            if (!acted()) return NO;
            int done = 0;
            for (int l = 0; l < lie.length; l++) if (lie[l] == w.loads.get(l).to) done++;
            return new int[] {right, why, far, minutes, here, done}[what];
        }

        int side(int m, int s, int what) {
            if (!side(m, s) || !in(what, 0, 3)) return -10;
            if (!acted()) return -20;
            List<Integer> pile = piles.get(2 * m + s);
            return new int[] {weighs(2 * m + s), pile.size(), pile.isEmpty() ? NONE : pile.get(pile.size() - 1),
                onSide[2 * m + s]}[what];
        }

        int where(int l) {
            if (!isLoad(l)) return BAD;
            return acted() ? lie[l] : NO;
        }

        // ---- evenly

        int halves(int bits, int what) {
            if (bits < 1 || bits >= 1 << w.loads.size() || !in(what, 0, 2)) return BAD;
            int least = 9999, ways = 0, first = 0;
            for (int ones = 0; ones <= bits; ones++) {
                if ((ones & ~bits) != 0) continue;
                int d = halfUneven(bits, ones);
                if (d < least) {
                    least = d;
                    ways = 0;
                    first = ones;
                }
                if (d == least) ways++;
            }
            return new int[] {least, ways, first}[what];
        }

        int halfUneven(int bits, int ones) {
            int[] sum = new int[2];
            for (int l = 0; l < w.loads.size(); l++) {
                if ((bits >> l) % 2 == 1) sum[(ones >> l) % 2] += w.loads.get(l).weight;
            }
            return Math.abs(sum[0] - sum[1]);
        }

        int within(int bits, int e) {
            if (bits < 1 || bits >= 1 << w.loads.size() || !in(e, 0, 99)) return BAD;
            for (int n = 0; n <= 99; n++) {
                for (int ones = 0; ones <= bits; ones++) {
                    if ((ones & ~bits) == 0 && Math.abs(halfUneven(bits, ones) - n * w.stone) <= e) return n;
                }
            }
            return NONE;
        }

        int hang(int l, int m, int s) {
            if (!isLoad(l) || !in(m, NONE, w.mules.size() - 1) || !in(s, 0, 1)) return -10;
            int was = w.loads.get(l).code;
            w.loads.get(l).code = m == NONE ? NONE : 2 * m + s;
            return was;
        }

        int line(int d) {
            if (!place(d) || d == 0) return BAD;
            if (w.line.contains(d)) return NO;
            w.line.add(d);
            return w.line.size();
        }

        int unline() {
            int had = w.line.size();
            w.line.clear();
            return had;
        }

        boolean coded() {
            for (Load l : w.loads) if (l.code == NONE) return false;
            return true;
        }

        int[] codes() {
            int[] row = new int[w.loads.size()];
            for (int l = 0; l < row.length; l++) row[l] = w.loads.get(l).code;
            return row;
        }

        /** Whether a load is on on a leg of a line, told place by place. */
        boolean on(List<Integer> line, int l, int leg, boolean comesOff) {
            Load it = w.loads.get(l);
            boolean on = it.from == 0;
            for (int i = 0; i < leg; i++) {
                if (on && comesOff && line.get(i) == it.to) return false;
                if (line.get(i) == it.from) on = true;
            }
            return on;
        }

        /** Whether a load comes off somewhere on a line. */
        boolean comesOff(List<Integer> line, int l) {
            int to = line.indexOf(w.loads.get(l).to);
            int from = w.loads.get(l).from == 0 ? -1 : line.indexOf(w.loads.get(l).from);
            return to > from && to >= 0 && (w.loads.get(l).from == 0 || from >= 0);
        }

        int[] sums(List<Integer> line, int[] row, int leg, int stays) {
            int[] sum = new int[6];
            for (int l = 0; l < row.length; l++) {
                if (on(line, l, leg, (stays >> l & 1) == 0)) sum[row[l]] += w.loads.get(l).behind(leg);
            }
            return sum;
        }

        boolean isBorne(List<Integer> line, int[] row) {
            for (int leg = 0; leg < line.size(); leg++) {
                int[] sum = sums(line, row, leg, 0);
                int[] many = new int[6];
                for (int l = 0; l < row.length; l++) if (on(line, l, leg, true)) many[row[l]]++;
                for (int m = 0; m < w.mules.size(); m++) {
                    if (sum[2 * m] + sum[2 * m + 1] > w.mules.get(m).most) return false;
                    for (int s = 0; s < 2; s++) {
                        if (sum[2 * m + s] > w.mules.get(m).bears[s] || many[2 * m + s] > 3) return false;
                    }
                }
            }
            return true;
        }

        int worstOf(List<Integer> line, int[] row) {
            int worst = 0;
            for (int leg = 0; leg < line.size(); leg++) {
                int[] sum = sums(line, row, leg, 0);
                for (int m = 0; m < 3; m++) worst = Math.max(worst, Math.abs(sum[2 * m] - sum[2 * m + 1]));
            }
            return worst;
        }

        boolean tooUneven(List<Integer> line, int[] row, int leg, int stays) {
            int[] sum = sums(line, row, leg, stays);
            for (int m = 0; m < w.mules.size(); m++) {
                if (Math.abs(sum[2 * m] - sum[2 * m + 1]) > w.mules.get(m).even) return true;
            }
            return false;
        }

        int borne() {
            return coded() ? isBorne(w.line, codes()) ? 1 : 0 : NO;
        }

        int worst() {
            return coded() ? worstOf(w.line, codes()) : NO;
        }

        int milesOf(List<Integer> line, int leg) {
            return w.miles[leg == 0 ? 0 : line.get(leg - 1)][line.get(leg)];
        }

        int longer() {
            if (!coded()) return NO;
            int sum = 0;
            for (int leg = 0; leg < w.line.size(); leg++) {
                if (tooUneven(w.line, codes(), leg, 0)) sum += milesOf(w.line, leg);
            }
            return sum;
        }

        double hangings() {
            return Math.pow(2 * w.mules.size(), w.loads.size());
        }

        /** All rows of codes, the first first. */
        List<int[]> rows() {
            List<int[]> all = new ArrayList<>();
            all.add(new int[0]);
            for (int l = 0; l < w.loads.size(); l++) {
                List<int[]> next = new ArrayList<>();
                for (int[] row : all) {
                    for (int c = 0; c < 2 * w.mules.size(); c++) {
                        int[] more = Arrays.copyOf(row, l + 1);
                        more[l] = c;
                        next.add(more);
                    }
                }
                all = next;
            }
            return all;
        }

        int[] staysRow(List<Integer> line) {
            int[] best = null;
            int least = 9999;
            for (int[] row : rows()) {
                if (!isBorne(line, row)) continue;
                int worst = worstOf(line, row);
                if (worst < least) {
                    least = worst;
                    best = row;
                }
            }
            return best;
        }

        int stays(int what) {
            if (what != NONE && !isLoad(what)) return -10;
            if (hangings() > 5000) return -20;
            int[] row = staysRow(w.line);
            if (row == null) return -5;
            return what == NONE ? worstOf(w.line, row) : row[what];
        }

        static void orders(List<Integer> left, List<Integer> done, List<List<Integer>> all) {
            if (left.isEmpty()) all.add(new ArrayList<>(done));
            for (int i = 0; i < left.size(); i++) {
                List<Integer> rest = new ArrayList<>(left);
                done.add(rest.remove(i));
                orders(rest, done, all);
                done.remove(done.size() - 1);
            }
        }

        int best(int what) {
            if (what != NONE && what != 10 && !in(what, 0, w.line.size() - 1)) return -10;
            if (hangings() > 5000) return -20;
            List<Integer> sorted = new ArrayList<>(w.line);
            sorted.sort(null);
            List<List<Integer>> all = new ArrayList<>();
            orders(sorted, new ArrayList<>(), all);
            List<Integer> first = null;
            int least = 0, fewest = 0;
            for (List<Integer> line : all) {
                int[] row = staysRow(line);
                if (row == null) continue;
                int worst = worstOf(line, row), miles = 0;
                for (int leg = 0; leg < line.size(); leg++) miles += milesOf(line, leg);
                if (first == null || worst < least || worst == least && miles < fewest) {
                    first = line;
                    least = worst;
                    fewest = miles;
                }
            }
            if (first == null) return -5;
            return what == NONE ? least : what == 10 ? fewest : first.get(what);
        }

        int liftings() {
            if (!coded()) return NO;
            List<int[]> events = new ArrayList<>();
            for (int stop = 0; stop <= w.line.size(); stop++) {
                for (int l = 0; l < w.loads.size(); l++) {
                    if (stop > 0 && on(w.line, l, stop - 1, true) && !onAt(stop, l)) events.add(new int[] {l, 0});
                }
                for (int l = 0; l < w.loads.size() && stop < w.line.size(); l++) {
                    boolean before = stop > 0 && on(w.line, l, stop - 1, true);
                    if (!before && on(w.line, l, stop, true)) events.add(new int[] {l, 1});
                }
            }
            List<List<Integer>> empty = new ArrayList<>();
            for (int c = 0; c < 6; c++) empty.add(new ArrayList<>());
            int fewest = lift(events, 0, empty, 0, 9999);
            return fewest == 9999 ? NONE : fewest;
        }

        /** Whether a load is still on behind a stop. */
        boolean onAt(int stop, int l) {
            return w.line.get(stop - 1) != w.loads.get(l).to;
        }

        int lift(List<int[]> events, int e, List<List<Integer>> piles, int so, int best) {
            if (so >= best) return best;
            if (e == events.size()) return so;
            int l = events.get(e)[0];
            List<Integer> pile = piles.get(w.loads.get(l).code);
            if (events.get(e)[1] == 0) {
                int i = pile.indexOf(l);
                pile.remove(i);
                if (fine(pile)) best = lift(events, e + 1, piles, so + 1 + pile.size() - i, best);
                pile.add(i, l);
                return best;
            }
            for (int i = pile.size(); i >= 0; i--) {
                pile.add(i, l);
                if (fine(pile)) best = lift(events, e + 1, piles, so + pile.size() - i, best);
                pile.remove(i);
            }
            return best;
        }

        boolean fine(List<Integer> pile) {
            for (int i = 1; i < pile.size(); i++) {
                if (w.loads.get(pile.get(i)).hard == 1 && w.loads.get(pile.get(i - 1)).hard == 0) return false;
            }
            return pile.size() <= 3;
        }

        int fewest() {
            if (!coded()) return NO;
            int all = 0;
            for (int m = 0; m < w.mules.size(); m++) {
                int stones = stonesFrom(m, 0, 0, 0);
                if (stones >= 9999) return NONE;
                all += stones;
            }
            return all;
        }

        int stonesFrom(int m, int leg, int a, int b) {
            if (leg == w.line.size()) return 0;
            int[] sum = sums(w.line, codes(), leg, 0);
            int best = 9999;
            for (int n = 0; n <= 9; n++) {
                for (int s = 0; s < 2; s++) {
                    int c = s == 0 ? n : 0, d = s == 0 ? 0 : n;
                    int uneven = Math.abs(sum[2 * m] + c * w.stone - sum[2 * m + 1] - d * w.stone);
                    if (uneven > w.mules.get(m).even) continue;
                    best = Math.min(best, Math.abs(c - a) + Math.abs(d - b) + stonesFrom(m, leg + 1, c, d));
                }
            }
            return best;
        }

        List<Integer> unsure() {
            List<Integer> all = new ArrayList<>();
            for (int l = 0; l < w.loads.size(); l++) {
                if (comesOff(w.line, l) && in(w.loads.get(l).asked, 1, 99)) all.add(l);
            }
            return all;
        }

        BigInteger chanceOf(int[] row) {
            List<Integer> unsure = unsure();
            int always = 0;
            for (int l = 0; l < row.length; l++) {
                if (comesOff(w.line, l) && w.loads.get(l).asked == 0) always |= 1 << l;
            }
            BigInteger sum = BigInteger.ZERO;
            for (int k = 0; k < 1 << unsure.size(); k++) {
                int stays = always;
                BigInteger product = BigInteger.ONE;
                for (int i = 0; i < unsure.size(); i++) {
                    int l = unsure.get(i), asked = w.loads.get(l).asked;
                    boolean stay = (k >> i & 1) == 1;
                    if (stay) stays |= 1 << l;
                    product = product.multiply(BigInteger.valueOf(stay ? 100 - asked : asked));
                }
                boolean even = true;
                for (int leg = 0; leg < w.line.size(); leg++) even &= !tooUneven(w.line, row, leg, stays);
                if (even) sum = sum.add(product);
            }
            return sum;
        }

        void fraction(BigInteger a) {
            BigInteger b = BigInteger.valueOf(100).pow(unsure().size());
            BigInteger g = a.gcd(b);
            above = a.divide(g);
            below = b.divide(g);
        }

        int chance() {
            if (!coded() || unsure().size() > 6) return NO;
            fraction(chanceOf(codes()));
            return 1;
        }

        int keep(int load) {
            if (!isLoad(load)) return -10;
            if (hangings() > 5000 || unsure().size() > 6) return -20;
            int[] best = null;
            BigInteger most = null;
            for (int[] row : rows()) {
                if (!isBorne(w.line, row)) continue;
                BigInteger c = chanceOf(row);
                if (best == null || c.compareTo(most) > 0) {
                    best = row;
                    most = c;
                }
            }
            if (best == null) return -5;
            fraction(most);
            return best[load];
        }

        int alone(int m, int t, int what) {
            if (!in(m, 0, w.mules.size() - 1) || !in(t, 0, 999) || what < NONE) return -10;
            if (!coded()) return -20;
            List<Integer> mine = new ArrayList<>();
            for (int l = 0; l < w.loads.size(); l++) {
                if (w.loads.get(l).from == 0 && w.loads.get(l).code / 2 == m) mine.add(l);
            }
            List<List<Integer>> all = new ArrayList<>();
            if (mine.size() <= 6) orders(mine, new ArrayList<>(), all);
            all.removeIf(order -> !goesWell(order, t));
            if (what == NONE) return all.size();
            return all.isEmpty() || what >= mine.size() ? -5 : all.get(0).get(what);
        }

        boolean goesWell(List<Integer> order, int t) {
            List<List<Integer>> two = List.of(new ArrayList<>(), new ArrayList<>());
            int[] sum = new int[2];
            for (int l : order) {
                int s = w.loads.get(l).code % 2;
                two.get(s).add(l);
                sum[s] += w.loads.get(l).weight;
                if (!fine(two.get(s)) || Math.abs(sum[0] - sum[1]) > t) return false;
            }
            return true;
        }

        // ---- what there is

        long part(int what) {
            return what == 0 ? above.longValueExact() : what == 1 ? below.longValueExact() : -1;
        }

        int image(int i) {
            if (!in(i, 0, 1)) return BAD;
            images[i] = w.copy();
            return 1;
        }

        int from(int i) {
            if (!in(i, 0, 1)) return BAD;
            if (images[i] == null) return NO;
            w = images[i].copy();
            return 1;
        }

        int count(int what) {
            if (!in(what, 0, 5)) return BAD;
            return new int[] {w.doors, w.mules.size(), w.loads.size(), w.line.size(), w.text[0].length(),
                w.text[1].length()}[what];
        }

        long digest() {
            List<Long> all = new ArrayList<>();
            for (int what = 0; what < 6; what++) all.add((long) count(what));
            for (int p = 0; p <= w.doors; p++) {
                for (int q = 0; q < p; q++) all.add((long) w.miles[p][q]);
                all.add(w.ford[p] ? 1L : 0L);
                all.add((long) w.stones[p]);
            }
            for (Mule m : w.mules) {
                for (int v : new int[] {m.most, m.even, m.longest, m.bears[0], m.bears[1]}) all.add((long) v);
            }
            for (Load l : w.loads) {
                for (int v : new int[] {l.weight, l.hard, l.from, l.to, l.asked, l.drain, l.code}) all.add((long) v);
            }
            all.add((long) w.stone);
            all.add((long) w.lift);
            for (int d : w.line) all.add((long) d);
            for (String t : w.text) for (char c : t.toCharArray()) all.add((long) c);
            all.add(above.longValueExact());
            all.add(below.longValueExact());
            long h = 503;
            for (long v : all) h = 31 * h + v;
            return h;
        }
    }

    // ---- the runs

    static final class Run {
        final Random random;
        final EvenSides x = new EvenSides();
        final Model model = new Model();
        final List<String> calls = new ArrayList<>();
        boolean failed;

        Run(long seed) {
            random = new Random(seed);
        }

        int any(int a, int b) {
            return a + random.nextInt(b - a + 1);
        }

        /** A number from a to b, or now and then one a little or far outside. */
        int near(int a, int b) {
            int k = random.nextInt(60);
            if (k == 0) return a - 1;
            if (k == 1) return b + 1;
            if (k == 2) return random.nextBoolean() ? Integer.MAX_VALUE : Integer.MIN_VALUE;
            return any(a, Math.max(a, b));
        }

        void due(String call, long got, long want) {
            calls.add(call + " = " + want);
            if (got == want || failed) return;
            failed = true;
            for (String c : calls) System.out.println("  " + c);
            System.out.println("  the last answered " + got);
        }

        /** All kinds of calls by turns, in a day that is soon full. */
        void mixedRun() {
            beginDay(any(0, 4), any(0, 2), any(0, 5));
            for (int k = 0; k < 140 && !failed; k++) step(random.nextInt(46));
        }

        /** A day in which every load hangs; then what is asked of hangings, with small changes. */
        void hangingRun() {
            int doors = any(1, 5), mules = any(1, 3);
            beginDay(doors, mules, any(1, mules == 1 ? 8 : mules == 2 ? 5 : 3));
            for (int k = 0; k < 12; k++) step(any(0, 1) == 0 ? 1 : any(5, 10));
            for (int k = 0; k < 8; k++) step(27);
            for (int k = 0; k < 60 && !failed; k++) {
                if (k % 6 == 0) step(26);
                if (k % 10 == 0) step(any(5, 10));
                if (k % 20 == 19) step(29);
                if (k % 20 == 19) for (int d = 0; d < 7; d++) step(27);
                step(any(20, 21) + 10 * any(0, 1));
                step(any(30, 40));
            }
        }

        /** A day with strong mules, and long rows of acts. */
        void actsRun() {
            beginDay(any(1, 3), any(1, 2), any(2, 7));
            for (int k = 0; k < 6; k++) step(3);
            for (int k = 0; k < 10; k++) step(any(1, 3) == 1 ? 1 : any(9, 10));
            for (int k = 0; k < 60 && !failed; k++) {
                typeText(1, rightAct());
                for (int i = 0; i < 3; i++) step(any(17, 19));
                due("run(1)", x.run(1), model.run(1));
                // What is behind a wrong act is never done: begin anew, with another ford maybe.
                if (model.run(1) != 0) {
                    due("clear(1)", x.clear(1), model.clear(1));
                    step(2);
                }
            }
        }

        void step(int kind) {
            int loads = model.w.loads.size(), mules = model.w.mules.size(), doors = model.w.doors;
            int a, b, c, d;
            switch (kind) {
                case 0: due("door()", x.door(), model.door()); break;
                case 1: a = near(0, doors); b = near(0, doors); c = near(1, random.nextBoolean() ? 4 : 99);
                    due("way(" + a + ", " + b + ", " + c + ")", x.way(a, b, c), model.way(a, b, c)); break;
                case 2: a = near(1, doors); due("ford(" + a + ")", x.ford(a), model.ford(a)); break;
                case 3: a = near(0, doors); b = near(0, 9);
                    due("stones(" + a + ", " + b + ")", x.stones(a, b), model.stones(a, b)); break;
                case 4: a = near(1, random.nextBoolean() ? 60 : 999); b = near(0, 20); c = near(0, 6);
                    due("mule(" + a + ", " + b + ", " + c + ")", x.mule(a, b, c), model.mule(a, b, c)); break;
                case 5: a = near(0, mules - 1); b = near(0, 1); c = near(0, 80);
                    due("lame(" + a + ", " + b + ", " + c + ")", x.lame(a, b, c), model.lame(a, b, c)); break;
                case 6: case 7: a = near(1, random.nextBoolean() ? 25 : 99); b = near(0, 1);
                    c = random.nextBoolean() ? 0 : near(0, doors); d = near(0, doors);
                    due("load(" + a + ", " + b + ", " + c + ", " + d + ")", x.load(a, b, c, d),
                        model.load(a, b, c, d)); break;
                case 8: a = near(0, loads - 1); b = near(0, 100);
                    due("ask(" + a + ", " + b + ")", x.ask(a, b), model.ask(a, b)); break;
                case 9: a = near(0, loads - 1); b = near(0, 9);
                    due("drain(" + a + ", " + b + ")", x.drain(a, b), model.drain(a, b)); break;
                case 10: a = near(0, 1); b = near(1, a == 0 ? 20 : 9);
                    due("put(" + a + ", " + b + ")", x.put(a, b), model.put(a, b)); break;
                case 11: case 12: case 13: typeWords(); break;
                case 14: a = near(0, 1); due("clear(" + a + ")", x.clear(a), model.clear(a)); break;
                case 15: a = near(0, 1); due("fault(" + a + ")", x.fault(a), model.fault(a)); break;
                case 16: if (random.nextInt(4) == 0) due("day()", x.day(), model.day()); break;
                case 17: a = near(0, 5); due("run(" + a + ")", x.run(a), model.run(a)); break;
                case 18: a = near(0, mules - 1); b = near(0, 1); c = near(0, 3);
                    due("side(" + a + ", " + b + ", " + c + ")", x.side(a, b, c), model.side(a, b, c)); break;
                case 19: a = near(0, loads - 1); due("where(" + a + ")", x.where(a), model.where(a)); break;
                case 20: a = near(1, (1 << loads) - 1); b = near(0, 2);
                    due("halves(" + a + ", " + b + ")", x.halves(a, b), model.halves(a, b)); break;
                case 21: a = near(1, (1 << loads) - 1); b = near(0, random.nextBoolean() ? 9 : 99);
                    due("within(" + a + ", " + b + ")", x.within(a, b), model.within(a, b)); break;
                case 22: case 23: case 24: case 25: hang(near(0, loads - 1)); break;
                case 26: for (int l = 0; l < loads; l++) hang(l); break;
                case 27: case 28: a = near(1, doors); due("line(" + a + ")", x.line(a), model.line(a)); break;
                case 29: due("unline()", x.unline(), model.unline()); break;
                case 30: due("borne()", x.borne(), model.borne()); break;
                case 31: due("worst()", x.worst(), model.worst()); break;
                case 32: due("longer()", x.longer(), model.longer()); break;
                case 33: a = near(-1, loads - 1); due("stays(" + a + ")", x.stays(a), model.stays(a)); break;
                case 34: a = random.nextBoolean() ? 10 : near(-1, model.w.line.size() - 1);
                    if (model.w.line.size() > 3 && model.hangings() > 300) break;
                    due("best(" + a + ")", x.best(a), model.best(a)); break;
                case 35: due("liftings()", x.liftings(), model.liftings()); break;
                case 36: due("fewest()", x.fewest(), model.fewest()); break;
                case 37: due("chance()", x.chance(), model.chance()); break;
                case 38: a = near(0, loads - 1);
                    if (model.hangings() * (1 << model.unsure().size()) > 9000) break;
                    due("keep(" + a + ")", x.keep(a), model.keep(a)); break;
                case 39: a = near(0, mules - 1); b = near(0, 60); c = near(-1, 4);
                    due("alone(" + a + ", " + b + ", " + c + ")", x.alone(a, b, c), model.alone(a, b, c)); break;
                case 40: a = near(0, 1); due("part(" + a + ")", x.part(a), model.part(a)); break;
                case 41: a = near(0, 1); due("image(" + a + ")", x.image(a), model.image(a)); break;
                case 42: a = near(0, 1);
                    if (random.nextInt(4) == 0) due("from(" + a + ")", x.from(a), model.from(a)); break;
                case 43: a = near(0, 5); due("count(" + a + ")", x.count(a), model.count(a)); break;
                default: due("digest()", x.digest(), model.digest()); break;
            }
        }

        void hang(int l) {
            int m = random.nextInt(30) == 0 ? -1 : near(0, model.w.mules.size() - 1), s = near(0, 1);
            due("hang(" + l + ", " + m + ", " + s + ")", x.hang(l, m, s), model.hang(l, m, s));
        }

        /** An item or more, most of them well made, come to a text. */
        void typeWords() {
            int t = random.nextInt(3) == 0 ? 0 : 1;
            StringBuilder words = new StringBuilder();
            for (int n = any(1, 4); n > 0; n--) words.append(t == 0 ? dayItem() : act());
            if (random.nextInt(25) == 0) words.setCharAt(any(0, words.length() - 1), (char) random.nextInt(256));
            if (random.nextInt(25) == 0) words.setCharAt(any(0, words.length() - 1), ' ');
            if (random.nextInt(25) == 0) words.deleteCharAt(any(0, words.length() - 1));
            if (random.nextInt(25) == 0) words.insert(any(0, words.length()), "0 ;a".charAt(any(0, 3)));
            if (model.fault(t) != NONE) due("clear(" + t + ")", x.clear(t), model.clear(t));
            typeText(t, words.toString());
        }

        void typeText(int t, String words) {
            byte[] bytes = words.getBytes(StandardCharsets.ISO_8859_1);
            int i = 0;
            while (i < bytes.length) {
                int n = Math.min(any(1, 8), bytes.length - i);
                long v = random.nextLong();
                for (int k = 0; k < n; k++) v = v << 8 | bytes[i + k] & 255;
                due("type(" + t + ", " + v + "L, " + n + ")", x.type(t, v, n), model.type(t, v, n));
                i += n;
            }
        }

        /** An act that goes right behind the text, most of the time. */
        String rightAct() {
            String tried = act();
            String was = model.w.text[1];
            for (int k = any(0, 12); k > 0; k--) {
                model.w.text[1] = was + tried;
                boolean right = model.run(1) == 0;
                model.w.text[1] = was;
                if (right) break;
                tried = act();
            }
            return tried;
        }

        String dayItem() {
            int p = 2, m = 1, l = 3;
            switch (random.nextInt(12)) {
                case 0: case 1: return "mule " + any(30, 90) + " " + any(0, 20) + " " + any(0, 9) + ";";
                case 2: case 3: case 4:
                    return "load " + any(1, 20) + (random.nextBoolean() ? " hard " : " soft ") + any(0, 1) + " "
                        + any(0, p) + ";";
                case 5: case 6: return "door;";
                case 7: return "way " + any(0, p) + " " + any(0, p) + " " + any(1, 9) + ";";
                case 8: return "lame " + any(0, m) + " " + any(0, 1) + " " + any(0, 50) + ";";
                case 9: return "ford " + any(1, p) + ";";
                case 10: return "ask " + any(0, l) + " " + any(0, 100) + ";";
                default: return random.nextBoolean() ? "drain " + any(0, l) + " " + any(0, 9) + ";"
                    : "stones " + any(0, p) + "  " + any(0, 9) + ";";
            }
        }

        String act() {
            int p = model.w.doors, m = Math.max(0, model.w.mules.size() - 1), l = Math.max(0, model.w.loads.size() - 1);
            String side = " " + any(0, m) + " " + (random.nextInt(40) == 0 ? 2 : any(0, 1));
            switch (random.nextInt(14)) {
                case 0: case 1: case 2: case 3: case 4: return "hang " + any(0, l) + side + ";";
                case 5: return "take" + side + ";";
                case 6: return "over" + side + ";";
                case 7: return "swap" + side + " " + any(0, m) + " " + any(0, 1) + ";";
                case 8: case 9: return "stone" + side + ";";
                case 10: return "drop" + side + ";";
                default: return "go " + any(0, p) + ";";
            }
        }

        /** A day to begin with, so that most calls have something to do. */
        void beginDay(int doors, int mules, int loads) {
            for (int n = doors; n > 0; n--) due("door()", x.door(), model.door());
            // Mules that are alike, and loads of like weights, have many hangings that are.
            boolean likeMules = random.nextBoolean();
            int most = 0, even = 0, longest = 0, weight = 0;
            for (int n = mules; n > 0; n--) {
                if (!likeMules || n == mules || random.nextInt(4) == 0) most = any(20, 120);
                if (!likeMules || n == mules || random.nextInt(4) == 0) even = any(0, 15);
                if (!likeMules || n == mules) longest = any(0, 9);
                due("mule(" + most + ", " + even + ", " + longest + ")", x.mule(most, even, longest),
                    model.mule(most, even, longest));
            }
            for (int n = loads; n > 0; n--) {
                if (n == loads || random.nextInt(3) > 0) weight = any(1, 30);
                int hard = any(0, 1), from = random.nextInt(3) > 0 ? 0 : any(0, doors), to = any(0, doors);
                due("load(" + weight + ", " + hard + ", " + from + ", " + to + ")", x.load(weight, hard, from, to),
                    model.load(weight, hard, from, to));
            }
        }
    }

    public static void main(String[] args) {
        int runs = args.length > 0 ? Integer.parseInt(args[0]) : 900;
        long first = args.length > 1 ? Long.parseLong(args[1]) : 1;
        int failed = 0;
        for (long seed = first; seed < first + runs && failed < 3; seed++) {
            Run run = new Run(seed);
            if (seed % 3 == 0) run.mixedRun();
            if (seed % 3 == 1) run.hangingRun();
            if (seed % 3 == 2) run.actsRun();
            run.due("digest()", run.x.digest(), run.model.digest());
            if (run.failed) {
                failed++;
                System.out.println("run of seed " + seed + " failed");
            }
        }
        System.out.println(failed == 0 ? "the model agrees in " + runs + " runs" : failed + " runs failed");
        if (failed != 0) System.exit(1);
    }
}
