/** A diocese that venerates saints ahead of time; ../shared/DOC.md has its promises by number. */
public final class SaintsAhead {
    public static final int UNKNOWN = -1, OUTSIDE = -2, STATE = -3, FULL = -4, NO = -5, NONE = -6;
    public static final long GONE = -1000000000000000000L;

    private static final int CHILDREN = 6, PARTS = 8, PARISHES = 4, WITNESSES = 8, DAYS = 12, IMAGES = 2;
    private static final int MOST_DEEDS = 99, MOST_YEARS = 99, MOST_PURSE = 999, MOST_COSTS = 99, MOST_WORTH = 999;
    private static final int MOST_LAW = 9, NEED = 0, PASS = 1, EYES = 2, LAW_SIZE = 3;
    private static final int ALL_DAYS = 4095, ALL_TOLD_WONDERS = 1023;
    private static final int PART_PRICE = 10, MOST_SIGHTS = 8, LAW_PAIRS = 100;
    private static final int MOST_ODDS_YEARS = 8, TENTHS = 10, MOST_TURNS = 12;
    private static final int MOST_COINS = 999, MOST_SEED = 9999, MOST_BOOK_ACTS = 99;
    private static final int TOLD_PARISH = 10, TOLD_WITNESS = 20, TOLD_CHILD = 50, TOLD_PART = 10;
    private static final int CAN_BE = 0;

    private final Diocese now = new Diocese();
    // YEARS on the PAD and YEAR-BOOKS are lived here, so that now stays as it is.
    private final Diocese then = new Diocese();
    // One that was never kept is null.
    private final Diocese[] images = new Diocese[IMAGES];
    private final Pad pad = new Pad();
    private final Years years = new Years();
    private final Act bookAct = new Act();
    private final Chances chances = new Chances();
    private final FittingLaws fitting = new FittingLaws();

    public SaintsAhead() {
    }

    // ---- 1 children, parishes, the law

    public int child(int child, int wonders, int sins, int seen) {
        if (!within(child, 0, CHILDREN - 1)) {
            return UNKNOWN;
        }
        if (!within(wonders, 0, MOST_DEEDS) || !within(sins, 0, MOST_DEEDS) || !within(seen, 0, MOST_DEEDS)) {
            return OUTSIDE;
        }
        now.enter(child, wonders, sins, seen);
        return Integer.bitCount(now.there);
    }

    public int leave(int child) {
        if (!now.isThere(child)) {
            return UNKNOWN;
        }
        now.remove(child);
        return Integer.bitCount(now.there);
    }

    public int law(int which, int v) {
        if (!within(which, NEED, EYES) || !within(v, 0, MOST_LAW)) {
            return OUTSIDE;
        }
        int before = now.rule[which];
        now.rule[which] = v;
        return before;
    }

    public int purse(int parish, int v) {
        if (!within(parish, 0, PARISHES - 1)) {
            return UNKNOWN;
        }
        if (!within(v, 0, MOST_PURSE)) {
            return OUTSIDE;
        }
        int before = now.purses[parish];
        now.purses[parish] = v;
        return before;
    }

    public int offer(int child, int costs, int worth, int days) {
        if (!within(child, 0, CHILDREN - 1)) {
            return UNKNOWN;
        }
        if (!within(costs, 0, MOST_COSTS) || !within(worth, 0, MOST_WORTH) || !within(days, 0, ALL_DAYS)) {
            return OUTSIDE;
        }
        int before = now.dayBits[child];
        now.costs[child] = costs;
        now.worths[child] = worth;
        now.dayBits[child] = days;
        return before;
    }

    public int witness(int witness, int wonders) {
        if (!within(witness, 0, WITNESSES - 1)) {
            return UNKNOWN;
        }
        if (!within(wonders, 0, ALL_TOLD_WONDERS)) {
            return OUTSIDE;
        }
        int before = now.sawBits[witness];
        now.sawBits[witness] = wonders;
        return before;
    }

    public int say(int sign) {
        if (!within(sign, Pad.LEAST_SIGN, Pad.MOST_SIGN)) {
            return OUTSIDE;
        }
        if (pad.count >= Pad.MOST_SIGNS) {
            return FULL;
        }
        pad.write((char) sign);
        return pad.count;
    }

    public int wipe() {
        int before = pad.count;
        pad.count = 0;
        return before;
    }

    public int fault() {
        return pad.firstFault();
    }

    // ---- 2 years

    public int judge(int what) {
        if (!within(what, 0, 2)) {
            return OUTSIDE;
        }
        int refusal = refusalOfYears();
        if (refusal == NO || what == 2 && refusal == STATE) {
            return refusal;
        }
        if (what == 0) {
            return years.firstBarred;
        }
        return what == 1 ? years.why : years.feasts;
    }

    public int behind(int child, int what) {
        if (!now.isThere(child)) {
            return UNKNOWN;
        }
        if (!within(what, 0, 4)) {
            return OUTSIDE;
        }
        int refusal = refusalOfYears();
        if (refusal != CAN_BE) {
            return refusal;
        }
        switch (what) {
            case 0: return then.wonders[child];
            case 1: return then.sins[child];
            case 2: return then.seen[child];
            case 3: return then.isSaint(child) ? 1 : 0;
            default: return then.isFallen(child) ? 1 : 0;
        }
    }

    public int holds(int parish, int child) {
        if (!within(parish, 0, PARISHES - 1) || child != -1 && !now.isThere(child)) {
            return UNKNOWN;
        }
        int refusal = refusalOfYears();
        if (refusal != CAN_BE) {
            return refusal;
        }
        return child == -1 ? then.purses[parish] : then.partBits(child, parish);
    }

    public int wrong(int what) {
        if (!within(what, 0, 1)) {
            return OUTSIDE;
        }
        int refusal = refusalOfYears();
        if (refusal != CAN_BE) {
            return refusal;
        }
        return what == 0 ? years.firstFalse : years.falseFeasts;
    }

    public int done() {
        int refusal = refusalOfYears();
        if (refusal != CAN_BE) {
            return refusal;
        }
        now.copyFrom(then);
        pad.count = 0;
        return years.acts;
    }

    public int saints() {
        return now.saintBits();
    }

    public int lacks(int child) {
        if (!now.isThere(child)) {
            return UNKNOWN;
        }
        if (now.isFallen(child)) {
            return STATE;
        }
        return Math.max(0, now.rule[NEED] - now.wonders[child])
                + Math.max(0, now.sins[child] - now.rule[PASS])
                + Math.max(0, now.rule[EYES] - now.seen[child]);
    }

    // ---- 3 odds, backing, witnesses, days

    public long odds(int child, int m, int t, int u, int g, int part) {
        if (!now.isThere(child)) {
            return GONE + UNKNOWN;
        }
        boolean tenthsFit = within(t, 0, TENTHS) && within(u, 0, TENTHS) && t + u <= TENTHS;
        if (!within(m, 0, MOST_ODDS_YEARS) || !tenthsFit || !within(g, 0, m) || !within(part, 0, 1)) {
            return GONE + OUTSIDE;
        }
        chances.spread(m, t, u, g);
        long upper = chances.waysToSaint(now, child);
        long lower = chances.allWays(m);
        long common = commonDivisor(upper, lower);
        return (part == 0 ? upper : lower) / common;
    }

    public int back(int v, int what) {
        if (!within(v, 0, MOST_PURSE) || !within(what, 0, 1)) {
            return OUTSIDE;
        }
        int most = 0;
        int who = 0;
        for (int set = 0; set < 1 << CHILDREN; set++) {
            boolean canBe = (set & ~now.there) == 0 && sumOver(set, now.costs) <= v;
            int worth = sumOver(set, now.worths);
            if (canBe && worth > most) {
                most = worth;
                who = set;
            }
        }
        return what == 0 ? most : who;
    }

    public int fewest(int wonders, int what) {
        if (!within(wonders, 0, ALL_TOLD_WONDERS) || !within(what, 0, 1)) {
            return OUTSIDE;
        }
        int least = WITNESSES + 1;
        int who = 0;
        for (int set = 0; set < 1 << WITNESSES; set++) {
            int size = Integer.bitCount(set);
            if (size < least && (wonders & ~unionOver(set, now.sawBits)) == 0) {
                least = size;
                who = set;
            }
        }
        if (least > WITNESSES) {
            return NONE;
        }
        return what == 0 ? least : who;
    }

    public int day(int child) {
        int left = now.saintBits();
        int most = mostWithDays(left, 0);
        if (child == -1) {
            return most;
        }
        if (!now.isSaint(child)) {
            return UNKNOWN;
        }
        int used = 0;
        for (int c = 0; c < child; c++) {
            if (now.isSaint(c)) {
                left &= ~(1 << c);
                int chosen = firstDay(c, left, used, most);
                if (chosen != NONE) {
                    used |= 1 << chosen;
                    most--;
                }
            }
        }
        return firstDay(child, left & ~(1 << child), used, most);
    }

    public int rivals(int child, int n, int what) {
        if (!now.isThere(child)) {
            return UNKNOWN;
        }
        if (!within(n, 0, MOST_TURNS) || !within(what, 0, 1)) {
            return OUTSIDE;
        }
        if (now.isFallen(child)) {
            return STATE;
        }
        int wonders = now.wonders[child];
        int sins = now.sins[child];
        if (what == 0) {
            return endsAsSaint(now, child, wonders, sins, n, true) ? 1 : 0;
        }
        if (n == 0) {
            return 0;
        }
        int byWonder = endsAsSaint(now, child, wonders + 1, sins, n - 1, false) ? 1 : 0;
        int byPenance = sins > 0 && endsAsSaint(now, child, wonders, sins - 1, n - 1, false) ? 1 : 0;
        return byWonder + byPenance;
    }

    public int share(int child, int c, int parish) {
        if (!now.isThere(child) || !within(parish, 0, PARISHES - 1)) {
            return UNKNOWN;
        }
        if (!within(c, 0, MOST_COINS)) {
            return OUTSIDE;
        }
        int all = now.heldParts(child);
        if (all == 0) {
            return 0;
        }
        int own = Integer.bitCount(now.partBits(child, parish));
        int over = c;
        int ahead = 0;
        for (int p = 0; p < PARISHES; p++) {
            int parts = Integer.bitCount(now.partBits(child, p));
            over -= c * parts / all;
            if (parts > own || parts == own && p < parish) {
                ahead++;
            }
        }
        return c * own / all + (ahead < over ? 1 : 0);
    }

    // ---- 4 laws from lives

    public int seen(int wonders, int sins, boolean saint) {
        if (!within(wonders, 0, MOST_LAW) || !within(sins, 0, MOST_LAW)) {
            return OUTSIDE;
        }
        if (now.sightCount >= MOST_SIGHTS) {
            return FULL;
        }
        now.addSight(wonders, sins, saint);
        return now.sightCount;
    }

    public int forget() {
        int before = now.sightCount;
        now.sightCount = 0;
        return before;
    }

    public int laws(int i) {
        fitting.find(now);
        if (i == -1) {
            return fitting.count;
        }
        return within(i, 0, fitting.count - 1) ? fitting.pairs[i] : NONE;
    }

    public int ask(int what) {
        if (!within(what, 0, 1)) {
            return OUTSIDE;
        }
        fitting.find(now);
        if (fitting.count == 0) {
            return NONE;
        }
        int fewestLeft = LAW_PAIRS + 1;
        int best = 0;
        for (int life = 0; life < LAW_PAIRS; life++) {
            int made = fitting.countThatMake(life / 10, life % 10);
            int left = Math.max(made, fitting.count - made);
            if (left < fewestLeft) {
                fewestLeft = left;
                best = life;
            }
        }
        return what == 0 ? best : fewestLeft;
    }

    public int book(int seed, int m, int what) {
        if (!within(seed, 0, MOST_SEED) || !within(m, 1, MOST_BOOK_ACTS) || !within(what, 0, 2)) {
            return OUTSIDE;
        }
        then.copyFrom(now);
        int x = seed;
        for (int i = 0; i < m; i++) {
            x = (75 * x + 74) % 65537;
            bookAct.draw(x);
            if (then.reasonAgainst(bookAct) == CAN_BE) {
                then.live(bookAct);
            }
        }
        switch (what) {
            case 0: return Integer.bitCount(then.saintBits());
            case 1: return then.pursesTogether();
            default: return then.allHeldParts();
        }
    }

    public int image(int k) {
        if (!within(k, 0, IMAGES - 1)) {
            return OUTSIDE;
        }
        Diocese kept = images[k];
        if (kept == null) {
            kept = new Diocese();
            images[k] = kept;
        }
        kept.copyFrom(now);
        return 1;
    }

    public int restore(int k) {
        if (!within(k, 0, IMAGES - 1)) {
            return OUTSIDE;
        }
        Diocese kept = images[k];
        if (kept == null) {
            return STATE;
        }
        now.copyFrom(kept);
        return 1;
    }

    public int told(int what) {
        if (within(what, TOLD_CHILD, TOLD_CHILD * (CHILDREN + 1) - 1)) {
            return toldOfChild(what / TOLD_CHILD - 1, what % TOLD_CHILD);
        }
        if (within(what, TOLD_PARISH, TOLD_PARISH + PARISHES - 1)) {
            return now.purses[what - TOLD_PARISH];
        }
        if (within(what, TOLD_WITNESS, TOLD_WITNESS + WITNESSES - 1)) {
            return now.sawBits[what - TOLD_WITNESS];
        }
        switch (what) {
            case 0: return pad.count;
            case 1: return now.there;
            case 2: return now.rule[NEED];
            case 3: return now.rule[PASS];
            case 4: return now.rule[EYES];
            case 5: return now.year;
            case 6: return now.sightCount;
            default: return OUTSIDE;
        }
    }

    private int toldOfChild(int child, int detail) {
        if (!now.isThere(child)) {
            return OUTSIDE;
        }
        if (within(detail, TOLD_PART, TOLD_PART + PARTS - 1)) {
            return now.holderOf(child, detail - TOLD_PART);
        }
        switch (detail) {
            case 0: return now.wonders[child];
            case 1: return now.sins[child];
            case 2: return now.seen[child];
            case 3: return now.isFallen(child) ? 1 : 0;
            case 4: return now.costs[child];
            case 5: return now.worths[child];
            case 6: return now.dayBits[child];
            default: return OUTSIDE;
        }
    }

    /** Lives the YEARS of the PAD in then: NO, STATE, or CAN_BE. */
    private int refusalOfYears() {
        if (pad.firstFault() != NONE) {
            return NO;
        }
        then.copyFrom(now);
        years.live(pad, then);
        return years.firstBarred == NONE ? CAN_BE : STATE;
    }

    private int firstDay(int child, int others, int used, int most) {
        for (int d = 0; d < DAYS; d++) {
            boolean free = (now.dayBits[child] & ~used & 1 << d) != 0;
            if (free && mostWithDays(others, used | 1 << d) == most - 1) {
                return d;
            }
        }
        return NONE;
    }

    /**
     * How many of some CHILDREN can have a day each of their own. By Hall's theorem as many stay
     * without one as the worst group of them has members more than days: no search is needed.
     */
    private int mostWithDays(int children, int used) {
        int mostWithout = 0;
        for (int group = 0; group < 1 << CHILDREN; group++) {
            if ((group & ~children) == 0) {
                int free = unionOver(group, now.dayBits) & ~used;
                mostWithout = Math.max(mostWithout, Integer.bitCount(group) - Integer.bitCount(free));
            }
        }
        return Integer.bitCount(children) - mostWithout;
    }

    /** Whether a CHILD is a SAINT behind the turns that are left, both playing best. */
    private static boolean endsAsSaint(Diocese of, int child, int wonders, int sins, int left, boolean wisher) {
        if (left <= 0 || left > MOST_TURNS) {
            return of.wouldBeSaint(child, wonders, sins);
        }
        if (wisher) {
            return endsAsSaint(of, child, wonders + 1, sins, left - 1, false)
                    || sins > 0 && endsAsSaint(of, child, wonders, sins - 1, left - 1, false);
        }
        return endsAsSaint(of, child, wonders, sins + 1, left - 1, true)
                && (wonders <= 0 || endsAsSaint(of, child, wonders - 1, sins, left - 1, true));
    }

    private static boolean within(int v, int low, int high) {
        return v >= low && v <= high;
    }

    private static int sumOver(int set, int[] values) {
        int sum = 0;
        for (int i = 0; i < values.length; i++) {
            if ((set >> i & 1) != 0) {
                sum += values[i];
            }
        }
        return sum;
    }

    private static int unionOver(int set, int[] values) {
        int union = 0;
        for (int i = 0; i < values.length; i++) {
            if ((set >> i & 1) != 0) {
                union |= values[i];
            }
        }
        return union;
    }

    /** Never below 1, so that it can divide. */
    private static long commonDivisor(long a, long b) {
        long high = a;
        long low = b;
        // Both are 10^8 at most, for which Euclid needs some forty steps.
        for (int i = 0; i < 100 && low != 0; i++) {
            long rest = high % low;
            high = low;
            low = rest;
        }
        return Math.max(1, high);
    }

    /** One ACT, used again for each one that is read or drawn. */
    private static final class Act {
        static final int WONDER = 0, SIN = 1, PENANCE = 2, SIGHTING = 3, FALL = 4, LETTING = 5, FEAST = 6, YEAR = 7;

        int kind;
        int child;
        int part;
        int parish;

        void put(int newKind, int newChild, int newPart, int newParish) {
            kind = newKind;
            child = newChild;
            part = newPart;
            parish = newParish;
        }

        void draw(int x) {
            put(drawnKind(x / 6 % 8), x % 6, x / 48 % 8, x / 384 % 4);
        }

        private static int drawnKind(int lot) {
            switch (lot) {
                case 0:
                case 1:
                case 2: return WONDER;
                case 3:
                case 4: return SIN;
                case 5: return PENANCE;
                case 6: return SIGHTING;
                default: return LETTING;
            }
        }
    }

    /** All that an IMAGE keeps. */
    private static final class Diocese {
        int there;
        int fallen;
        int year;
        int sightCount;
        int sightSaints;
        final int[] wonders = new int[CHILDREN];
        final int[] sins = new int[CHILDREN];
        final int[] seen = new int[CHILDREN];
        final int[] holders = new int[CHILDREN * PARTS];
        final int[] costs = new int[CHILDREN];
        final int[] worths = new int[CHILDREN];
        final int[] dayBits = new int[CHILDREN];
        final int[] purses = new int[PARISHES];
        final int[] rule = new int[LAW_SIZE];
        final int[] sawBits = new int[WITNESSES];
        // Each 10 times its WONDERS and its SINS.
        final int[] sightLives = new int[MOST_SIGHTS];

        Diocese() {
            for (int c = 0; c < CHILDREN; c++) {
                costs[c] = 10;
                worths[c] = 10;
                dayBits[c] = ALL_DAYS;
            }
            for (int i = 0; i < CHILDREN * PARTS; i++) {
                holders[i] = NONE;
            }
            for (int p = 0; p < PARISHES; p++) {
                purses[p] = 100;
            }
            rule[NEED] = 2;
            rule[PASS] = 1;
            rule[EYES] = 1;
        }

        void copyFrom(Diocese other) {
            there = other.there;
            fallen = other.fallen;
            year = other.year;
            sightCount = other.sightCount;
            sightSaints = other.sightSaints;
            System.arraycopy(other.wonders, 0, wonders, 0, CHILDREN);
            System.arraycopy(other.sins, 0, sins, 0, CHILDREN);
            System.arraycopy(other.seen, 0, seen, 0, CHILDREN);
            System.arraycopy(other.holders, 0, holders, 0, CHILDREN * PARTS);
            System.arraycopy(other.costs, 0, costs, 0, CHILDREN);
            System.arraycopy(other.worths, 0, worths, 0, CHILDREN);
            System.arraycopy(other.dayBits, 0, dayBits, 0, CHILDREN);
            System.arraycopy(other.purses, 0, purses, 0, PARISHES);
            System.arraycopy(other.rule, 0, rule, 0, LAW_SIZE);
            System.arraycopy(other.sawBits, 0, sawBits, 0, WITNESSES);
            System.arraycopy(other.sightLives, 0, sightLives, 0, MOST_SIGHTS);
        }

        boolean isThere(int child) {
            return within(child, 0, CHILDREN - 1) && (there >> child & 1) != 0;
        }

        boolean isFallen(int child) {
            return isThere(child) && (fallen >> child & 1) != 0;
        }

        boolean isSaint(int child) {
            return isThere(child) && wouldBeSaint(child, wonders[child], sins[child]);
        }

        boolean wouldBeSaint(int child, int itsWonders, int itsSins) {
            return isThere(child) && !isFallen(child) && seen[child] >= rule[EYES]
                    && itsWonders >= rule[NEED] && itsSins <= rule[PASS];
        }

        int saintBits() {
            int bits = 0;
            for (int c = 0; c < CHILDREN; c++) {
                if (isSaint(c)) {
                    bits |= 1 << c;
                }
            }
            return bits;
        }

        void enter(int child, int itsWonders, int itsSins, int itsSeen) {
            there |= 1 << child;
            fallen &= ~(1 << child);
            wonders[child] = itsWonders;
            sins[child] = itsSins;
            seen[child] = itsSeen;
            freeParts(child);
        }

        void remove(int child) {
            there &= ~(1 << child);
            freeParts(child);
        }

        private void freeParts(int child) {
            for (int part = 0; part < PARTS; part++) {
                holders[child * PARTS + part] = NONE;
            }
        }

        int holderOf(int child, int part) {
            return holders[child * PARTS + part];
        }

        int partBits(int child, int parish) {
            int bits = 0;
            for (int part = 0; part < PARTS; part++) {
                if (holderOf(child, part) == parish) {
                    bits |= 1 << part;
                }
            }
            return bits;
        }

        int heldParts(int child) {
            return PARTS - Integer.bitCount(partBits(child, NONE));
        }

        int allHeldParts() {
            int held = 0;
            for (int c = 0; c < CHILDREN; c++) {
                held += heldParts(c);
            }
            return held;
        }

        int pursesTogether() {
            int sum = 0;
            for (int p = 0; p < PARISHES; p++) {
                sum += purses[p];
            }
            return sum;
        }

        void addSight(int itsWonders, int itsSins, boolean saint) {
            if (sightCount < MOST_SIGHTS) {
                int bit = 1 << sightCount;
                sightLives[sightCount] = 10 * itsWonders + itsSins;
                sightSaints = saint ? sightSaints | bit : sightSaints & ~bit;
                sightCount++;
            }
        }

        /** Why an ACT can not be, the least reason of the document; CAN_BE if it can. */
        int reasonAgainst(Act act) {
            if (act.kind == Act.YEAR) {
                return year >= MOST_YEARS ? 7 : CAN_BE;
            }
            if (!isThere(act.child)) {
                return 1;
            }
            if (isFallen(act.child)) {
                return 2;
            }
            switch (act.kind) {
                case Act.WONDER: return wonders[act.child] >= MOST_DEEDS ? 3 : CAN_BE;
                case Act.SIN: return sins[act.child] >= MOST_DEEDS ? 3 : CAN_BE;
                case Act.SIGHTING: return seen[act.child] >= MOST_DEEDS ? 3 : CAN_BE;
                case Act.PENANCE: return sins[act.child] <= 0 ? 3 : CAN_BE;
                case Act.LETTING: return reasonAgainstLetting(act);
                case Act.FEAST: return partBits(act.child, act.parish) == 0 ? 6 : CAN_BE;
                default: return CAN_BE;
            }
        }

        private int reasonAgainstLetting(Act act) {
            if (holderOf(act.child, act.part) != NONE) {
                return 4;
            }
            return purses[act.parish] < PART_PRICE ? 5 : CAN_BE;
        }

        /** An ACT against which there is no reason. */
        void live(Act act) {
            switch (act.kind) {
                case Act.WONDER: wonders[act.child]++; break;
                case Act.SIN: sins[act.child]++; break;
                case Act.SIGHTING: seen[act.child]++; break;
                case Act.PENANCE: sins[act.child]--; break;
                case Act.FALL: fall(act.child); break;
                case Act.LETTING:
                    holders[act.child * PARTS + act.part] = act.parish;
                    purses[act.parish] -= PART_PRICE;
                    break;
                case Act.YEAR: year++; break;
                default: break;
            }
        }

        private void fall(int child) {
            for (int p = 0; p < PARISHES; p++) {
                int refund = PART_PRICE * Integer.bitCount(partBits(child, p));
                purses[p] = Math.min(MOST_PURSE, purses[p] + refund);
            }
            fallen |= 1 << child;
            freeParts(child);
        }
    }

    /** The text of the YEARS, with its grammar. */
    private static final class Pad {
        static final int MOST_SIGNS = 60, LEAST_SIGN = 33, MOST_SIGN = 126;
        private static final int ACT = 0, DEED = 1, LETTING_PARISH = 2, FEAST_PARISH = 3, FEAST_CHILD = 4, FAULTY = 5;

        final char[] signs = new char[MOST_SIGNS];
        int count;

        void write(char sign) {
            if (count < MOST_SIGNS) {
                signs[count] = sign;
                count++;
            }
        }

        int firstFault() {
            int wanted = ACT;
            for (int i = 0; i < count; i++) {
                wanted = wantedAfter(wanted, signAt(i));
                if (wanted == FAULTY) {
                    return i;
                }
            }
            return wanted == ACT ? NONE : count;
        }

        private static int wantedAfter(int wanted, char sign) {
            switch (wanted) {
                case ACT: return wantedAfterFirst(sign);
                case DEED:
                    if (within(sign, '0', '7')) {
                        return LETTING_PARISH;
                    }
                    return deedKind(sign) != NONE ? ACT : FAULTY;
                case LETTING_PARISH: return isParish(sign) ? ACT : FAULTY;
                case FEAST_PARISH: return isParish(sign) ? FEAST_CHILD : FAULTY;
                case FEAST_CHILD: return isChild(sign) ? ACT : FAULTY;
                default: return FAULTY;
            }
        }

        private static int wantedAfterFirst(char sign) {
            if (sign == '.') {
                return ACT;
            }
            if (sign == 'f') {
                return FEAST_PARISH;
            }
            return isChild(sign) ? DEED : FAULTY;
        }

        private static boolean isChild(char sign) {
            return within(sign, 'A', 'F');
        }

        private static boolean isParish(char sign) {
            return within(sign, 'a', 'd');
        }

        private static int deedKind(char sign) {
            switch (sign) {
                case 'w': return Act.WONDER;
                case 's': return Act.SIN;
                case 'p': return Act.PENANCE;
                case 'e': return Act.SIGHTING;
                case 'x': return Act.FALL;
                default: return NONE;
            }
        }

        private char signAt(int place) {
            return within(place, 0, count - 1) ? signs[place] : '.';
        }

        /** Reads the ACT that begins at a place of a PAD without FAULT: the place behind it. */
        int readAct(int place, Act act) {
            char first = signAt(place);
            char second = signAt(place + 1);
            char third = signAt(place + 2);
            if (first == '.') {
                act.put(Act.YEAR, 0, 0, 0);
                return place + 1;
            }
            if (first == 'f') {
                act.put(Act.FEAST, third - 'A', 0, second - 'a');
                return place + 3;
            }
            int kind = deedKind(second);
            if (kind != NONE) {
                act.put(kind, first - 'A', 0, 0);
                return place + 2;
            }
            act.put(Act.LETTING, first - 'A', second - '0', third - 'a');
            return place + 3;
        }
    }

    /** What is told of the YEARS when they are lived up to the first ACT that can not be. */
    private static final class Years {
        private final Act act = new Act();
        int acts;
        int firstBarred;
        int why;
        int feasts;
        int firstFalse;
        int falseFeasts;

        void live(Pad pad, Diocese diocese) {
            clear();
            int place = 0;
            // An ACT has a sign at least, so there are no more ACTS than signs.
            for (int i = 0; i < Pad.MOST_SIGNS && place < pad.count; i++) {
                place = pad.readAct(place, act);
                int reason = diocese.reasonAgainst(act);
                if (reason != CAN_BE) {
                    firstBarred = acts;
                    why = reason;
                    return;
                }
                diocese.live(act);
                if (act.kind == Act.FEAST) {
                    countFeast(diocese.isSaint(act.child));
                }
                acts++;
            }
        }

        private void clear() {
            acts = 0;
            firstBarred = NONE;
            why = NONE;
            feasts = 0;
            firstFalse = NONE;
            falseFeasts = 0;
        }

        private void countFeast(boolean ofSaint) {
            feasts++;
            if (!ofSaint) {
                falseFeasts++;
                if (firstFalse == NONE) {
                    firstFalse = acts;
                }
            }
        }
    }

    /** How many ways, each year counting ten, lead to so many WONDERS and SINS more. */
    private static final class Chances {
        private static final int SIDE = MOST_ODDS_YEARS + 1;

        private final long[] ways = new long[SIDE * SIDE];

        void spread(int m, int t, int u, int g) {
            for (int i = 0; i < SIDE * SIDE; i++) {
                ways[i] = 0;
            }
            ways[0] = 1;
            for (int y = 0; y < m; y++) {
                addYear(t, y < g ? 0 : u);
            }
        }

        private void addYear(int wonderTenths, int sinTenths) {
            int idleTenths = TENTHS - wonderTenths - sinTenths;
            // From the top down, so that what is read is still of the year before.
            for (int w = SIDE - 1; w >= 0; w--) {
                for (int s = SIDE - 1; s >= 0; s--) {
                    long sum = ways[w * SIDE + s] * idleTenths;
                    if (w > 0) {
                        sum += ways[(w - 1) * SIDE + s] * wonderTenths;
                    }
                    if (s > 0) {
                        sum += ways[w * SIDE + s - 1] * sinTenths;
                    }
                    ways[w * SIDE + s] = sum;
                }
            }
        }

        long waysToSaint(Diocese diocese, int child) {
            long sum = 0;
            for (int w = 0; w < SIDE; w++) {
                for (int s = 0; s < SIDE; s++) {
                    if (diocese.wouldBeSaint(child, diocese.wonders[child] + w, diocese.sins[child] + s)) {
                        sum += ways[w * SIDE + s];
                    }
                }
            }
            return sum;
        }

        long allWays(int m) {
            long all = 1;
            for (int y = 0; y < m; y++) {
                all *= TENTHS;
            }
            return all;
        }
    }

    /** The LAWS by which all SIGHTS are so, each 10 times NEED and PASS, rising. */
    private static final class FittingLaws {
        final int[] pairs = new int[LAW_PAIRS];
        int count;

        void find(Diocese diocese) {
            count = 0;
            for (int pair = 0; pair < LAW_PAIRS; pair++) {
                if (fits(pair, diocese)) {
                    pairs[count] = pair;
                    count++;
                }
            }
        }

        private static boolean fits(int pair, Diocese diocese) {
            for (int i = 0; i < diocese.sightCount; i++) {
                int life = diocese.sightLives[i];
                boolean saint = (diocese.sightSaints >> i & 1) != 0;
                if (makesSaint(pair, life / 10, life % 10) != saint) {
                    return false;
                }
            }
            return true;
        }

        private static boolean makesSaint(int pair, int wonders, int sins) {
            return wonders >= pair / 10 && sins <= pair % 10;
        }

        int countThatMake(int wonders, int sins) {
            int sum = 0;
            for (int i = 0; i < count; i++) {
                if (makesSaint(pairs[i], wonders, sins)) {
                    sum++;
                }
            }
            return sum;
        }
    }
}
