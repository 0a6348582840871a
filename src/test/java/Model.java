import java.math.BigInteger;
import java.util.ArrayList;
import java.util.Arrays;
import java.util.List;
import java.util.TreeMap;
import java.util.regex.Matcher;
import java.util.regex.Pattern;

/**
 * The document once more, by other means: regular expressions, whole searches, big numbers. Slow, and
 * written from the document alone, so that a slip in the class is not made here too.
 */
final class Model {
    static final int UNKNOWN = -1, OUTSIDE = -2, STATE = -3, FULL = -4, NO = -5, NONE = -6;
    static final BigInteger GONE = BigInteger.TEN.pow(18).negate();
    private static final Pattern ACT = Pattern.compile("[A-F](?:[wspex]|[0-7][a-d])|f[a-d][A-F]|\\.");
    private static final Pattern BEGUN = Pattern.compile("|[A-F][0-7]?|f[a-d]?");

    static final class Kid {
        int wonders, sins, seen;
        boolean fallen;
        TreeMap<Integer, Integer> parts = new TreeMap<>();

        Kid copy() {
            Kid k = new Kid();
            k.wonders = wonders;
            k.sins = sins;
            k.seen = seen;
            k.fallen = fallen;
            k.parts = new TreeMap<>(parts);
            return k;
        }
    }

    static final class World {
        TreeMap<Integer, Kid> kids = new TreeMap<>();
        int[] purses = {100, 100, 100, 100};
        int[] law = {2, 1, 1};
        int[][] offers = new int[6][];
        int[] saw = new int[8];
        int year = 0;
        List<int[]> sights = new ArrayList<>();

        World() {
            Arrays.setAll(offers, k -> new int[] {10, 10, 4095});
        }

        World copy() {
            World w = new World();
            kids.forEach((k, kid) -> w.kids.put(k, kid.copy()));
            w.purses = purses.clone();
            w.law = law.clone();
            w.offers = Arrays.stream(offers).map(int[]::clone).toArray(int[][]::new);
            w.saw = saw.clone();
            w.year = year;
            w.sights.addAll(sights);
            return w;
        }

        boolean saint(Kid k) {
            return saint(k, k.wonders, k.sins);
        }

        boolean saint(Kid k, int wonders, int sins) {
            return !k.fallen && wonders >= law[0] && sins <= law[1] && k.seen >= law[2];
        }

        int saints() {
            return kids.entrySet().stream().filter(e -> saint(e.getValue())).mapToInt(e -> 1 << e.getKey()).sum();
        }

        /** 0 if it is lived, else why it can not be. */
        int live(String act) {
            if (act.equals(".")) {
                return year == 99 ? 7 : 0 * ++year;
            }
            boolean feast = act.charAt(0) == 'f';
            Kid k = kids.get("ABCDEF".indexOf(act.charAt(feast ? 2 : 0)));
            if (k == null) {
                return 1;
            }
            if (k.fallen) {
                return 2;
            }
            if (feast) {
                return k.parts.containsValue("abcd".indexOf(act.charAt(1))) ? 0 : 6;
            }
            switch (act.charAt(1)) {
                case 'w': return k.wonders == 99 ? 3 : 0 * ++k.wonders;
                case 's': return k.sins == 99 ? 3 : 0 * ++k.sins;
                case 'e': return k.seen == 99 ? 3 : 0 * ++k.seen;
                case 'p': return k.sins == 0 ? 3 : 0 * --k.sins;
                case 'x':
                    k.fallen = true;
                    k.parts.values().forEach(p -> purses[p] = Math.min(999, purses[p] + 10));
                    k.parts.clear();
                    return 0;
                default:
            }
            int parish = "abcd".indexOf(act.charAt(2));
            if (k.parts.containsKey(act.charAt(1) - '0')) {
                return 4;
            }
            if (purses[parish] < 10) {
                return 5;
            }
            k.parts.put(act.charAt(1) - '0', parish);
            purses[parish] -= 10;
            return 0;
        }
    }

    /** YEARS as they are lived. */
    static final class Lived {
        World end;
        int acts, barred = NONE, why = NONE;
        List<Integer> feasts = new ArrayList<>(), falses = new ArrayList<>();
    }

    World world = new World();
    String pad = "";
    World[] images = new World[2];

    private static boolean out(int v, int low, int high) {
        return v < low || v > high;
    }

    int child(int child, int wonders, int sins, int seen) {
        if (out(child, 0, 5)) {
            return UNKNOWN;
        }
        if (out(wonders, 0, 99) || out(sins, 0, 99) || out(seen, 0, 99)) {
            return OUTSIDE;
        }
        Kid k = new Kid();
        k.wonders = wonders;
        k.sins = sins;
        k.seen = seen;
        world.kids.put(child, k);
        return world.kids.size();
    }

    int leave(int child) {
        return world.kids.remove(child) == null ? UNKNOWN : world.kids.size();
    }

    private static int swap(int[] row, int i, int v) {
        int before = row[i];
        row[i] = v;
        return before;
    }

    int law(int which, int v) {
        return out(which, 0, 2) || out(v, 0, 9) ? OUTSIDE : swap(world.law, which, v);
    }

    int purse(int parish, int v) {
        return out(parish, 0, 3) ? UNKNOWN : out(v, 0, 999) ? OUTSIDE : swap(world.purses, parish, v);
    }

    int offer(int child, int costs, int worth, int days) {
        if (out(child, 0, 5)) {
            return UNKNOWN;
        }
        if (out(costs, 0, 99) || out(worth, 0, 999) || out(days, 0, 4095)) {
            return OUTSIDE;
        }
        int before = world.offers[child][2];
        world.offers[child] = new int[] {costs, worth, days};
        return before;
    }

    int witness(int witness, int wonders) {
        return out(witness, 0, 7) ? UNKNOWN : out(wonders, 0, 1023) ? OUTSIDE : swap(world.saw, witness, wonders);
    }

    int say(int sign) {
        if (out(sign, 33, 126)) {
            return OUTSIDE;
        }
        if (pad.length() == 60) {
            return FULL;
        }
        pad += (char) sign;
        return pad.length();
    }

    int wipe() {
        int before = pad.length();
        pad = "";
        return before;
    }

    /** The longest beginning of the PAD that some text without FAULT begins with tells the FAULT. */
    int fault() {
        if (canBegin(pad) && rest(pad).isEmpty()) {
            return NONE;
        }
        int length = 0;
        while (length < pad.length() && canBegin(pad.substring(0, length + 1))) {
            length++;
        }
        return length;
    }

    private static String rest(String text) {
        Matcher m = ACT.matcher(text);
        int at = 0;
        while (m.find(at) && m.start() == at) {
            at = m.end();
        }
        return text.substring(at);
    }

    private static boolean canBegin(String text) {
        return BEGUN.matcher(rest(text)).matches();
    }

    private Lived lived() {
        Lived l = new Lived();
        l.end = world.copy();
        Matcher m = ACT.matcher(pad);
        while (l.barred == NONE && m.find()) {
            String act = m.group();
            int why = l.end.live(act);
            if (why != 0) {
                l.barred = l.acts;
                l.why = why;
                break;
            }
            if (act.startsWith("f")) {
                l.feasts.add(l.acts);
                if (!l.end.saint(l.end.kids.get(act.charAt(2) - 'A'))) {
                    l.falses.add(l.acts);
                }
            }
            l.acts++;
        }
        return l;
    }

    /** For drawing ACTS that can be; of a PAD with a FAULT it is what it is. */
    World endOfPad() {
        return lived().end;
    }

    private int refusal() {
        return fault() != NONE ? NO : lived().barred != NONE ? STATE : 0;
    }

    int judge(int what) {
        if (out(what, 0, 2)) {
            return OUTSIDE;
        }
        if (fault() != NONE) {
            return NO;
        }
        Lived l = lived();
        return what == 0 ? l.barred : what == 1 ? l.why : l.barred != NONE ? STATE : l.feasts.size();
    }

    int behind(int child, int what) {
        if (!world.kids.containsKey(child)) {
            return UNKNOWN;
        }
        if (out(what, 0, 4)) {
            return OUTSIDE;
        }
        if (refusal() != 0) {
            return refusal();
        }
        World end = lived().end;
        Kid k = end.kids.get(child);
        return new int[] {k.wonders, k.sins, k.seen, end.saint(k) ? 1 : 0, k.fallen ? 1 : 0}[what];
    }

    int holds(int parish, int child) {
        if (out(parish, 0, 3) || child != -1 && !world.kids.containsKey(child)) {
            return UNKNOWN;
        }
        if (refusal() != 0) {
            return refusal();
        }
        World end = lived().end;
        return child == -1 ? end.purses[parish] : end.kids.get(child).parts.entrySet().stream()
                .filter(e -> e.getValue() == parish).mapToInt(e -> 1 << e.getKey()).sum();
    }

    int wrong(int what) {
        if (out(what, 0, 1)) {
            return OUTSIDE;
        }
        if (refusal() != 0) {
            return refusal();
        }
        List<Integer> falses = lived().falses;
        return what == 1 ? falses.size() : falses.isEmpty() ? NONE : falses.get(0);
    }

    int done() {
        if (refusal() != 0) {
            return refusal();
        }
        Lived l = lived();
        world = l.end;
        pad = "";
        return l.acts;
    }

    int saints() {
        return world.saints();
    }

    /** Tries ever more deeds until some of them make a SAINT. */
    int lacks(int child) {
        Kid k = world.kids.get(child);
        if (k == null) {
            return UNKNOWN;
        }
        if (k.fallen) {
            return STATE;
        }
        Kid tried = k.copy();
        int deeds = 0;
        for (; tried.wonders < world.law[0]; deeds++) {
            tried.wonders++;
        }
        for (; tried.sins > world.law[1]; deeds++) {
            tried.sins--;
        }
        for (; tried.seen < world.law[2]; deeds++) {
            tried.seen++;
        }
        return deeds;
    }

    long odds(int child, int m, int t, int u, int g, int part) {
        if (!world.kids.containsKey(child)) {
            return GONE.longValue() + UNKNOWN;
        }
        if (out(m, 0, 8) || out(t, 0, 10) || out(u, 0, 10) || out(t + u, 0, 10) || out(g, 0, m) || out(part, 0, 1)) {
            return GONE.longValue() + OUTSIDE;
        }
        Kid k = world.kids.get(child);
        BigInteger upper = ways(k, m, t, u, g, new int[] {k.wonders, k.sins});
        BigInteger lower = BigInteger.TEN.pow(m);
        BigInteger common = upper.gcd(lower);
        return (part == 0 ? upper : lower).divide(common).longValueExact();
    }

    private BigInteger ways(Kid k, int left, int t, int u, int guarded, int[] life) {
        if (left == 0) {
            return world.saint(k, life[0], life[1]) ? BigInteger.ONE : BigInteger.ZERO;
        }
        BigInteger sum = BigInteger.ZERO;
        int sin = guarded > 0 ? 0 : u;
        int[] tenths = {t, sin, 10 - t - sin};
        int[][] lives = {{life[0] + 1, life[1]}, {life[0], life[1] + 1}, life};
        for (int i = 0; i < 3; i++) {
            if (tenths[i] > 0) {
                sum = sum.add(BigInteger.valueOf(tenths[i]).multiply(ways(k, left - 1, t, u, guarded - 1, lives[i])));
            }
        }
        return sum;
    }

    int back(int v, int what) {
        if (out(v, 0, 999) || out(what, 0, 1)) {
            return OUTSIDE;
        }
        int[] best = {0, 0};
        spend(new ArrayList<>(world.kids.keySet()), v, 0, 0, best);
        return best[what];
    }

    private void spend(List<Integer> kids, int v, int worth, int who, int[] best) {
        if (worth > best[0] || worth == best[0] && who < best[1]) {
            best[0] = worth;
            best[1] = who;
        }
        for (int i = 0; i < kids.size(); i++) {
            int[] offer = world.offers[kids.get(i)];
            if (offer[0] <= v) {
                spend(kids.subList(i + 1, kids.size()), v - offer[0], worth + offer[1], who | 1 << kids.get(i), best);
            }
        }
    }

    int fewest(int wonders, int what) {
        if (out(wonders, 0, 1023) || out(what, 0, 1)) {
            return OUTSIDE;
        }
        for (int size = 0; size <= 8; size++) {
            for (int set = 0; set < 256; set++) {
                int seen = 0;
                for (int w = 0; w < 8; w++) {
                    seen |= set / (1 << w) % 2 == 1 ? world.saw[w] : 0;
                }
                if (Integer.bitCount(set) == size && (seen & wonders) == wonders) {
                    return what == 0 ? size : set;
                }
            }
        }
        return NONE;
    }

    int day(int child) {
        List<Integer> saints = new ArrayList<>();
        world.kids.forEach((k, kid) -> {
            if (world.saint(kid)) {
                saints.add(k);
            }
        });
        if (child != -1 && !saints.contains(child)) {
            return UNKNOWN;
        }
        int most = saints.size();
        int[] way = new int[saints.size()];
        while (!firstWay(saints, 0, 0, most, way)) {
            most--;
        }
        return child == -1 ? most : way[saints.indexOf(child)];
    }

    /** Goes through the ways in their order until one gives so many a day. */
    private boolean firstWay(List<Integer> saints, int i, int used, int most, int[] way) {
        if (most > saints.size() - i) {
            return false;
        }
        if (i == saints.size()) {
            return most <= 0;
        }
        for (int d = 0; d < 12; d++) {
            way[i] = d;
            boolean may = (world.offers[saints.get(i)][2] & ~used & 1 << d) != 0;
            if (may && firstWay(saints, i + 1, used | 1 << d, most - 1, way)) {
                return true;
            }
        }
        way[i] = NONE;
        return firstWay(saints, i + 1, used, most, way);
    }

    int rivals(int child, int n, int what) {
        Kid k = world.kids.get(child);
        if (k == null) {
            return UNKNOWN;
        }
        if (out(n, 0, 12) || out(what, 0, 1)) {
            return OUTSIDE;
        }
        if (k.fallen) {
            return STATE;
        }
        if (what == 0) {
            return value(k, k.wonders, k.sins, n, 0);
        }
        int moves = 0;
        for (int[] next : n == 0 ? new ArrayList<int[]>() : moves(k.wonders, k.sins, 0)) {
            moves += value(k, next[0], next[1], n - 1, 1);
        }
        return moves;
    }

    private static List<int[]> moves(int wonders, int sins, int who) {
        List<int[]> all = new ArrayList<>();
        all.add(who == 0 ? new int[] {wonders + 1, sins} : new int[] {wonders, sins + 1});
        if (who == 0 && sins > 0) {
            all.add(new int[] {wonders, sins - 1});
        }
        if (who == 1 && wonders > 0) {
            all.add(new int[] {wonders - 1, sins});
        }
        return all;
    }

    private int value(Kid k, int wonders, int sins, int n, int who) {
        if (n == 0) {
            return world.saint(k, wonders, sins) ? 1 : 0;
        }
        int best = who;
        for (int[] next : moves(wonders, sins, who)) {
            int v = value(k, next[0], next[1], n - 1, 1 - who);
            best = who == 0 ? Math.max(best, v) : Math.min(best, v);
        }
        return best;
    }

    int share(int child, int c, int parish) {
        Kid k = world.kids.get(child);
        if (k == null || out(parish, 0, 3)) {
            return UNKNOWN;
        }
        if (out(c, 0, 999)) {
            return OUTSIDE;
        }
        int[] held = new int[4];
        k.parts.values().forEach(p -> held[p]++);
        int all = k.parts.size();
        int[] gets = new int[4];
        int over = c;
        List<Integer> order = new ArrayList<>();
        for (int p = 0; p < 4 && all > 0; p++) {
            gets[p] = c * held[p] / all;
            over -= gets[p];
            order.add(p);
        }
        order.sort((p, q) -> held[p] != held[q] ? held[q] - held[p] : p - q);
        for (int i = 0; i < order.size() && over > 0; i++, over--) {
            gets[order.get(i)]++;
        }
        return gets[parish];
    }

    int seen(int wonders, int sins, boolean saint) {
        if (out(wonders, 0, 9) || out(sins, 0, 9)) {
            return OUTSIDE;
        }
        if (world.sights.size() == 8) {
            return FULL;
        }
        world.sights.add(new int[] {wonders, sins, saint ? 1 : 0});
        return world.sights.size();
    }

    int forget() {
        int before = world.sights.size();
        world.sights.clear();
        return before;
    }

    private static int made(int[] law, int wonders, int sins) {
        return wonders < law[0] || sins > law[1] ? 0 : 1;
    }

    private List<int[]> fitting() {
        List<int[]> all = new ArrayList<>();
        for (int need = 0; need < 10; need++) {
            for (int pass = 0; pass < 10; pass++) {
                int[] law = {need, pass};
                if (world.sights.stream().allMatch(s -> made(law, s[0], s[1]) == s[2])) {
                    all.add(law);
                }
            }
        }
        return all;
    }

    int laws(int i) {
        List<int[]> all = fitting();
        if (i == -1) {
            return all.size();
        }
        return out(i, 0, all.size() - 1) ? NONE : 10 * all.get(i)[0] + all.get(i)[1];
    }

    int ask(int what) {
        if (out(what, 0, 1)) {
            return OUTSIDE;
        }
        List<int[]> all = fitting();
        if (all.isEmpty()) {
            return NONE;
        }
        int[] best = {-1, 1000};
        for (int wonders = 0; wonders < 10; wonders++) {
            for (int sins = 0; sins < 10; sins++) {
                int[] left = new int[2];
                for (int[] law : all) {
                    left[made(law, wonders, sins)]++;
                }
                if (Math.max(left[0], left[1]) < best[1]) {
                    best = new int[] {10 * wonders + sins, Math.max(left[0], left[1])};
                }
            }
        }
        return best[what];
    }

    int book(int seed, int m, int what) {
        if (out(seed, 0, 9999) || out(m, 1, 99) || out(what, 0, 2)) {
            return OUTSIDE;
        }
        World w = world.copy();
        long x = seed;
        for (int i = 0; i < m; i++) {
            x = (75 * x + 74) % 65537;
            String who = "" + (char) ('A' + x % 6);
            char deed = "wwwsspe7".charAt((int) (x / 6 % 8));
            w.live(deed == '7' ? who + x / 48 % 8 + (char) ('a' + x / 384 % 4) : who + deed);
        }
        if (what == 0) {
            return Integer.bitCount(w.saints());
        }
        return what == 1 ? Arrays.stream(w.purses).sum() : w.kids.values().stream().mapToInt(k -> k.parts.size()).sum();
    }

    int image(int k) {
        if (out(k, 0, 1)) {
            return OUTSIDE;
        }
        images[k] = world.copy();
        return 1;
    }

    int restore(int k) {
        if (out(k, 0, 1)) {
            return OUTSIDE;
        }
        if (images[k] == null) {
            return STATE;
        }
        world = images[k].copy();
        return 1;
    }

    int told(int what) {
        TreeMap<Integer, Integer> all = new TreeMap<>();
        all.put(0, pad.length());
        all.put(1, world.kids.keySet().stream().mapToInt(k -> 1 << k).sum());
        for (int i = 0; i < 3; i++) {
            all.put(2 + i, world.law[i]);
        }
        all.put(5, world.year);
        all.put(6, world.sights.size());
        for (int p = 0; p < 4; p++) {
            all.put(10 + p, world.purses[p]);
        }
        for (int w = 0; w < 8; w++) {
            all.put(20 + w, world.saw[w]);
        }
        world.kids.forEach((c, k) -> {
            int[] row = {k.wonders, k.sins, k.seen, k.fallen ? 1 : 0};
            for (int i = 0; i < 7; i++) {
                all.put(50 * (1 + c) + i, i < 4 ? row[i] : world.offers[c][i - 4]);
            }
            for (int part = 0; part < 8; part++) {
                all.put(50 * (1 + c) + 10 + part, k.parts.getOrDefault(part, NONE));
            }
        });
        return all.getOrDefault(what, OUTSIDE);
    }
}
