import java.math.BigInteger;
import java.util.ArrayList;
import java.util.Arrays;
import java.util.HashMap;
import java.util.HashSet;
import java.util.List;
import java.util.Map;
import java.util.Set;

/** The document said again, in other words and without haste: what random runs compare the program with. */
final class SlowClock {
    private static final int NONE = -1;

    static final class Dial {
        int marks;
        int offset;
        int gap;
        List<int[]> train = new ArrayList<>();

        Dial copy() {
            Dial d = new Dial();
            d.marks = marks;
            d.offset = offset;
            d.gap = gap;
            d.train = new ArrayList<>(train);
            return d;
        }
    }

    static final class Kept {
        List<Dial> dials = new ArrayList<>();
        List<Integer> stock = new ArrayList<>();
        List<SlowLaw> laws = new ArrayList<>();
        List<int[]> sights = new ArrayList<>();
        List<Map<Integer, Integer>> knobs = new ArrayList<>();
        int force = NONE;
        int wear = 10000;

        Kept copy() {
            Kept k = new Kept();
            for (Dial d : dials) {
                k.dials.add(d.copy());
            }
            k.stock.addAll(stock);
            k.laws.addAll(laws);
            k.sights.addAll(sights);
            for (Map<Integer, Integer> m : knobs) {
                k.knobs.add(new HashMap<>(m));
            }
            k.force = force;
            k.wear = wear;
            return k;
        }
    }

    private Kept it = new Kept();
    private final Kept[] images = new Kept[2];
    private String tape = "";
    private int fault = NONE;
    private int bent = 0;
    private final Map<Integer, Integer> refused = new HashMap<>();
    private int status = 0;
    private List<int[]> storm = new ArrayList<>();

    private int no(int why) {
        status = why;
        refused.merge(why, 1, Integer::sum);
        return why;
    }

    private int yes(int answer) {
        status = 0;
        return answer;
    }

    private boolean isHand(int h) {
        return h >= 0 && h < it.dials.size();
    }

    private static boolean in(int a, int x, int b) {
        return a <= x && x <= b;
    }

    private static BigInteger big(long n) {
        return BigInteger.valueOf(n);
    }

    int hand(int marks) {
        if (!in(1, marks, 400)) {
            return no(-1);
        }
        if (it.dials.size() == 6) {
            return no(-5);
        }
        Dial d = new Dial();
        d.marks = marks;
        it.dials.add(d);
        return yes(it.dials.size() - 1);
    }

    int put(int hand, int what, int value) {
        if (!in(0, what, 1) || value < 0 || (what == 1 && value > 9999)) {
            return no(-1);
        }
        if (!isHand(hand)) {
            return no(-2);
        }
        Dial d = it.dials.get(hand);
        int was = what == 0 ? d.offset : d.gap;
        if (what == 0) {
            if (value >= d.marks) {
                return no(-1);
            }
            d.offset = value;
        } else {
            d.gap = value;
        }
        return yes(was);
    }

    int pair(int hand, int driver, int driven) {
        if (!in(6, driver, 120) || !in(6, driven, 120)) {
            return no(-1);
        }
        if (!isHand(hand)) {
            return no(-2);
        }
        if (it.dials.get(hand).train.size() == 4) {
            return no(-5);
        }
        it.dials.get(hand).train.add(new int[] {driver, driven});
        return yes(it.dials.get(hand).train.size());
    }

    int strip(int hand) {
        if (!isHand(hand)) {
            return no(-2);
        }
        int was = it.dials.get(hand).train.size();
        it.dials.get(hand).train.clear();
        return yes(was);
    }

    int of(int hand, int what) {
        if (!isHand(hand)) {
            return NONE;
        }
        Dial d = it.dials.get(hand);
        List<Integer> all = new ArrayList<>(List.of(d.marks, d.offset, d.gap, d.train.size()));
        for (int[] p : d.train) {
            all.add(p[0]);
            all.add(p[1]);
        }
        return in(0, what, all.size() - 1) ? all.get(what) : NONE;
    }

    int wheel(int teeth) {
        if (!in(6, teeth, 120)) {
            return no(-1);
        }
        if (it.stock.size() == 12) {
            return no(-5);
        }
        it.stock.add(teeth);
        return yes(it.stock.size() - 1);
    }

    int drop(int wheel) {
        if (!in(0, wheel, it.stock.size() - 1)) {
            return no(-2);
        }
        it.stock.remove(wheel);
        return yes(it.stock.size());
    }

    int teeth(int wheel) {
        return in(0, wheel, it.stock.size() - 1) ? it.stock.get(wheel) : NONE;
    }

    int terms(int what, int value) {
        if (what != 0 || !in(1, value, 1000000)) {
            return no(-1);
        }
        int was = it.wear;
        it.wear = value;
        return yes(was);
    }

    int feed(int a, int b, int c, int d, int e) {
        if (tape.length() > 380) {
            return NONE;
        }
        StringBuilder more = new StringBuilder(tape);
        for (int n : new int[] {a, b, c, d, e}) {
            for (byte one : big(n & 0xffffffffL).add(big(1L << 32)).toByteArray()) {
                more.append((char) (one & 255));
            }
            more.deleteCharAt(more.length() - 5);
        }
        tape = more.toString();
        return tape.length();
    }

    int end(int n) {
        if (!in(0, n, tape.length())) {
            return NONE;
        }
        tape = tape.substring(0, n);
        return n;
    }

    int row() {
        if (tape.isEmpty()) {
            return no(-6);
        }
        int came = 0;
        bent = 0;
        for (char c : tape.toCharArray()) {
            if (in(6, c, 120) && it.stock.size() < 12) {
                it.stock.add((int) c);
                came++;
            } else {
                bent++;
            }
        }
        tape = "";
        return yes(came);
    }

    int bent() {
        return bent;
    }

    int law() {
        String text = tape;
        tape = "";
        if (it.laws.size() == 6) {
            return no(-5);
        }
        fault = SlowLaw.faultOf(text);
        if (fault != NONE) {
            return no(-6);
        }
        it.laws.add(new SlowLaw(text));
        return yes(it.laws.size() - 1);
    }

    int fault() {
        return fault;
    }

    int force(int law) {
        if (!in(-1, law, it.laws.size() - 1)) {
            return no(-2);
        }
        int was = it.force;
        it.force = law;
        return yes(was);
    }

    private static BigInteger[] rateOf(List<int[]> train) {
        BigInteger up = BigInteger.ONE;
        BigInteger low = BigInteger.ONE;
        for (int[] p : train) {
            up = up.multiply(big(p[0]));
            low = low.multiply(big(p[1]));
        }
        return lowest(up, low);
    }

    private static BigInteger[] lowest(BigInteger up, BigInteger low) {
        BigInteger g = up.gcd(low);
        return new BigInteger[] {up.divide(g), low.divide(g)};
    }

    long rate(int hand, int what) {
        return isHand(hand) && in(0, what, 1) ? rateOf(it.dials.get(hand).train)[what].longValueExact() : NONE;
    }

    private static int mark(List<int[]> train, int marks, int offset, int gap, int day) {
        int gone = gap == 0 ? day : day - day / gap;
        BigInteger[] r = rateOf(train);
        return big(gone).multiply(r[0]).multiply(big(marks)).divide(r[1]).add(big(offset)).mod(big(marks)).intValueExact();
    }

    private int mark(int hand, int day) {
        Dial d = it.dials.get(hand);
        return mark(d.train, d.marks, d.offset, d.gap, day);
    }

    private int turns(int hand, int day) {
        Dial d = it.dials.get(hand);
        int gone = d.gap == 0 ? day : day - day / d.gap;
        BigInteger[] r = rateOf(d.train);
        return big(gone).multiply(r[0]).divide(r[1]).mod(big(1000000)).intValueExact();
    }

    int shows(int hand, int day, int what) {
        if (!isHand(hand) || !in(0, day, 1000000) || !in(0, what, 2)) {
            return NONE;
        }
        return what == 0 ? mark(hand, day) : what == 1 ? turns(hand, day) : isWrong(hand, day) ? 1 : 0;
    }

    private boolean isWrong(int hand, int day) {
        int due = should(hand, day);
        return due != -2000000000 && due != mark(hand, day);
    }

    int should(int hand, int day) {
        if (!isHand(hand) || !in(0, day, 1000000) || it.force == NONE) {
            return -2000000000;
        }
        Dial d = it.dials.get(hand);
        Map<String, Integer> words = Map.of("day", day, "hand", hand, "marks", d.marks, "turn", turns(hand, day),
                "offset", d.offset);
        return it.laws.get(it.force).tells(words);
    }

    int wrong(int hand, int from, int to, int what) {
        if (!isHand(hand) || !in(0, from, 1000000) || !in(from, to, 1000000) || to - from > 5000 || !in(0, what, 1)) {
            return NONE;
        }
        List<Integer> days = new ArrayList<>();
        for (int d = from; d <= to; d++) {
            if (isWrong(hand, d)) {
                days.add(d);
            }
        }
        return what == 1 ? days.size() : days.isEmpty() ? NONE : days.get(0);
    }

    private static boolean told(int p, int q) {
        return in(1, p, 100000) && in(1, q, 100000);
    }

    private static BigInteger[] offRate(List<int[]> train, int p, int q) {
        BigInteger[] r = rateOf(train);
        BigInteger up = r[0].multiply(big(q)).subtract(r[1].multiply(big(p))).abs();
        return lowest(up, r[1].multiply(big(q)));
    }

    long off(int hand, int p, int q, int what) {
        if (!isHand(hand) || !told(p, q) || !in(0, what, 2)) {
            return NONE;
        }
        BigInteger[] by = offRate(it.dials.get(hand).train, p, q);
        if (what < 2) {
            return by[what].longValueExact();
        }
        int low = 0;
        int high = 1000001;
        while (low < high) {
            int mid = (low + high) / 2;
            if (by[0].multiply(big(mid)).compareTo(by[1]) >= 0) {
                high = mid;
            } else {
                low = mid + 1;
            }
        }
        return low == 1000001 ? NONE : low;
    }

    /** All rows of stock wheels for one or two pairs, in the order of the document. */
    private List<int[]> rows() {
        int n = it.stock.size();
        List<int[]> all = new ArrayList<>();
        for (int a = 0; a < n; a++) {
            for (int b = 0; b < n; b++) {
                if (a != b) {
                    all.add(new int[] {a, b});
                }
            }
        }
        int single = all.size();
        for (int i = 0; i < single; i++) {
            for (int j = 0; j < single; j++) {
                int[] f = all.get(i);
                int[] s = all.get(j);
                if (Set.of(f[0], f[1]).contains(s[0]) || Set.of(f[0], f[1]).contains(s[1])) {
                    continue;
                }
                all.add(new int[] {f[0], f[1], s[0], s[1]});
            }
        }
        return all;
    }

    private List<int[]> trainOf(int[] row) {
        List<int[]> train = new ArrayList<>();
        for (int i = 0; i < row.length; i += 2) {
            train.add(new int[] {it.stock.get(row[i]), it.stock.get(row[i + 1])});
        }
        return train;
    }

    private int[] nearestRow(int p, int q) {
        int[] best = null;
        BigInteger[] off = null;
        for (int[] row : rows()) {
            BigInteger[] by = offRate(trainOf(row), p, q);
            if (best == null || by[0].multiply(off[1]).compareTo(off[0].multiply(by[1])) < 0) {
                best = row;
                off = by;
            }
        }
        return best;
    }

    int nearest(int p, int q, int what) {
        if (!told(p, q) || it.stock.size() < 2 || what < 0) {
            return NONE;
        }
        int[] row = nearestRow(p, q);
        return what == 0 ? row.length / 2 : what <= row.length ? row[what - 1] : NONE;
    }

    long near(int p, int q, int what) {
        if (!told(p, q) || it.stock.size() < 2 || !in(0, what, 1)) {
            return NONE;
        }
        return offRate(trainOf(nearestRow(p, q)), p, q)[what].longValueExact();
    }

    int mount(int hand, int p, int q) {
        if (!told(p, q)) {
            return no(-1);
        }
        if (!isHand(hand) || it.stock.size() < 2) {
            return no(-2);
        }
        it.dials.get(hand).train = trainOf(nearestRow(p, q));
        return yes(it.dials.get(hand).train.size());
    }

    int cam(int hand, int n) {
        if (!isHand(hand) || !in(99, n, 2000)) {
            return NONE;
        }
        List<Integer> due = new ArrayList<>();
        for (int d = 0; d <= n; d++) {
            due.add(should(hand, d));
        }
        if (due.contains(-2000000000)) {
            return NONE;
        }
        for (int length = 1; length <= 99; length++) {
            if (due.subList(length, n + 1).equals(due.subList(0, n + 1 - length))) {
                return length;
            }
        }
        return NONE;
    }

    int sight(int hand, int day, int mark) {
        if (!in(0, day, 1000000) || mark < 0) {
            return no(-1);
        }
        if (!isHand(hand)) {
            return no(-2);
        }
        if (mark >= it.dials.get(hand).marks) {
            return no(-1);
        }
        if (it.sights.size() == 10) {
            return no(-5);
        }
        it.sights.add(new int[] {hand, day, mark});
        return yes(it.sights.size());
    }

    int forget() {
        int were = it.sights.size();
        it.sights.clear();
        return were;
    }

    int inside(int hand, int what) {
        if (!isHand(hand) || !in(0, what, 6)) {
            return NONE;
        }
        Dial d = it.dials.get(hand);
        int found = 0;
        int[] best = null;
        int bestOffset = 0;
        for (int[] row : rows()) {
            List<int[]> train = trainOf(row);
            Set<Integer> good = new HashSet<>();
            for (int o = 0; o < d.marks; o++) {
                good.add(o);
            }
            for (int[] s : it.sights) {
                if (s[0] == hand) {
                    int bare = mark(train, d.marks, 0, 0, s[1]);
                    good.removeIf(o -> (bare + o) % d.marks != s[2]);
                }
            }
            found += good.size();
            for (int o = 0; o < d.marks; o++) {
                if (good.contains(o)
                        && (best == null || row.length < best.length || (row.length == best.length && o < bestOffset))) {
                    best = row;
                    bestOffset = o;
                }
            }
        }
        if (what == 0) {
            return found;
        }
        if (best == null) {
            return NONE;
        }
        return what == 1 ? best.length / 2 : what == 2 ? bestOffset : what - 3 < best.length ? best[what - 3] : NONE;
    }

    int gone(int hand, int what) {
        if (!isHand(hand) || !in(0, what, 1)) {
            return NONE;
        }
        Dial d = it.dials.get(hand);
        List<Integer> gaps = new ArrayList<>();
        for (int g = 2; g <= 400; g++) {
            int gap = g;
            if (it.sights.stream().allMatch(s -> s[0] != hand || mark(d.train, d.marks, d.offset, gap, s[1]) == s[2])) {
                gaps.add(g);
            }
        }
        return what == 0 ? gaps.size() : gaps.isEmpty() ? NONE : gaps.get(0);
    }

    int together(int one, int mark, int other, int otherMark, int from) {
        if (!isHand(one) || !isHand(other) || !in(0, from, 1000000)) {
            return NONE;
        }
        for (int d = from; d <= 1000000 && d <= from + 5000; d++) {
            if (mark(one, d) == mark && mark(other, d) == otherMark) {
                return d;
            }
        }
        return NONE;
    }

    int knob() {
        if (it.knobs.size() == 4) {
            return no(-5);
        }
        it.knobs.add(new HashMap<>());
        return yes(it.knobs.size() - 1);
    }

    int push(int knob, int hand, int marks) {
        if (!in(0, marks, 9)) {
            return no(-1);
        }
        if (!in(0, knob, it.knobs.size() - 1) || !isHand(hand)) {
            return no(-2);
        }
        Integer was = it.knobs.get(knob).put(hand, marks);
        return yes(was == null ? 0 : was);
    }

    int set(int one, int mark, int other, int otherMark, int day, int what) {
        if (!isHand(one) || !isHand(other) || one == other || !in(0, day, 1000000)) {
            return NONE;
        }
        int m = it.dials.get(one).marks;
        int n = it.dials.get(other).marks;
        if (!in(0, mark, m - 1) || !in(0, otherMark, n - 1) || !in(0, what, it.knobs.size())) {
            return NONE;
        }
        int[] pushes = fewest(one, other, Math.floorMod(mark - mark(one, day), m),
                Math.floorMod(otherMark - mark(other, day), n));
        return pushes == null ? NONE : what == 0 ? Arrays.stream(pushes).sum() : pushes[what - 1];
    }

    /** Whole rows of pushes are kept for each place, and the first row is taken among all ways of as many pushes. */
    private int[] fewest(int one, int other, int x, int y) {
        int m = it.dials.get(one).marks;
        int n = it.dials.get(other).marks;
        Map<Integer, int[]> all = new HashMap<>();
        Map<Integer, int[]> latest = new HashMap<>();
        latest.put(0, new int[it.knobs.size()]);
        while (!latest.isEmpty()) {
            all.putAll(latest);
            if (all.containsKey(x * n + y)) {
                return all.get(x * n + y);
            }
            Map<Integer, int[]> next = new HashMap<>();
            for (Map.Entry<Integer, int[]> e : latest.entrySet()) {
                for (int k = 0; k < it.knobs.size(); k++) {
                    int a = (e.getKey() / n + it.knobs.get(k).getOrDefault(one, 0)) % m;
                    int b = (e.getKey() % n + it.knobs.get(k).getOrDefault(other, 0)) % n;
                    int[] row = e.getValue().clone();
                    row[k]++;
                    if (!all.containsKey(a * n + b)) {
                        next.merge(a * n + b, row, (r, s) -> Arrays.compare(r, s) < 0 ? r : s);
                    }
                }
            }
            latest = next;
        }
        return null;
    }

    int worn(int hand) {
        if (hand == NONE) {
            int first = NONE;
            for (int h = 0; h < it.dials.size(); h++) {
                int d = worn(h);
                first = d == NONE ? first : first == NONE ? d : Math.min(first, d);
            }
            return first;
        }
        if (!isHand(hand) || it.dials.get(hand).train.isEmpty()) {
            return NONE;
        }
        List<int[]> train = it.dials.get(hand).train;
        BigInteger first = big(it.wear);
        for (int i = 1; i <= train.size(); i++) {
            BigInteger[] r = rateOf(train.subList(0, i));
            BigInteger day = big(it.wear).multiply(r[1]).add(r[0]).subtract(BigInteger.ONE).divide(r[0]);
            first = first.min(day);
        }
        return first.compareTo(big(1000000)) > 0 ? NONE : first.intValueExact();
    }

    int shared() {
        Set<String> prefixes = new HashSet<>();
        for (Dial d : it.dials) {
            StringBuilder prefix = new StringBuilder();
            for (int[] p : d.train) {
                prefix.append(p[0]).append('/').append(p[1]).append(' ');
                prefixes.add(prefix.toString());
            }
        }
        return 2 * prefixes.size();
    }

    int storm(int seed, int day, int n) {
        if (!in(0, seed, 1000000) || !in(0, day, 1000000) || !in(1, n, 100) || day + n > 1000000) {
            return no(-1);
        }
        long s = seed;
        int[] lost = new int[it.dials.size()];
        for (int i = 0; i < n; i++) {
            for (int h = 0; h < lost.length; h++) {
                s = (s * 1103 + 12345) % 1000003;
                lost[h] += s % 10 == 0 ? 1 : 0;
            }
        }
        storm = new ArrayList<>();
        for (int h = 0; h < lost.length; h++) {
            storm.add(new int[] {mark(h, day + n - lost[h]), lost[h]});
        }
        return yes(Arrays.stream(lost).sum());
    }

    int stormed(int hand, int what) {
        return in(0, hand, storm.size() - 1) && in(0, what, 1) ? storm.get(hand)[what] : NONE;
    }

    int image(int k) {
        if (!in(0, k, 1)) {
            return no(-1);
        }
        images[k] = it.copy();
        return yes(0);
    }

    int back(int k) {
        if (!in(0, k, 1)) {
            return no(-1);
        }
        if (images[k] == null) {
            return no(-2);
        }
        it = images[k].copy();
        return yes(0);
    }

    int count(int what) {
        if (!in(0, what, 11)) {
            return NONE;
        }
        return List.of(it.dials.size(), it.stock.size(), it.laws.size(), it.sights.size(), it.knobs.size(),
                tape.length(), refused.getOrDefault(-1, 0), refused.getOrDefault(-2, 0), refused.getOrDefault(-5, 0),
                refused.getOrDefault(-6, 0), it.force, it.wear).get(what);
    }

    int status() {
        return status;
    }
}
