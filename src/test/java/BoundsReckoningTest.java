import java.util.function.IntToLongFunction;

/** 'Terms', part 3: odds, backing, witnesses, days, rivals, shares. */
public final class BoundsReckoningTest {
    private static final long OUTSIDE = -1000000000000000002L;
    private static final Checks c = new Checks();

    public static void main(String[] args) throws IllegalAccessException {
        Sentences.hold(BoundsReckoningTest.class, c);
    }

    // ---- odds

    private static void fraction(SaintsAhead x, int m, int t, int u, int g, long upper, long lower) {
        String call = "odds(0, " + m + ", " + t + ", " + u + ", " + g + ", ";
        c.due(call + "0)", x.odds(0, m, t, u, g, 0), upper);
        c.due(call + "1)", x.odds(0, m, t, u, g, 1), lower);
    }

    private static void oddsBounds(String number, int low, int high, IntToLongFunction of) {
        Sentences.bounds(c, number, low, high, -2, v -> {
            long got = of.applyAsLong(v);
            return got < 0 ? (int) (got - SaintsAhead.GONE) : 1;
        });
    }

    @Sentence(in = "Terms", says = "ODDS: each of m years (0 to 8)")
    static void oddsOf0To8Years() {
        SaintsAhead x = new SaintsAhead();
        x.child(0, 2, 1, 1);
        oddsBounds("m", 0, 8, m -> x.odds(0, m, 0, 0, 0, 0));
        fraction(x, 0, 10, 0, 0, 1, 1);
        fraction(x, 0, 0, 10, 0, 1, 1);
        x.child(0, 1, 1, 1);
        fraction(x, 0, 10, 0, 0, 0, 1);
        fraction(x, 1, 10, 0, 0, 1, 1);
        x.child(0, 0, 0, 1);
        x.law(0, 8);
        fraction(x, 8, 1, 0, 0, 1, 100000000);
        fraction(x, 8, 9, 0, 0, 43046721, 100000000);
        fraction(x, 7, 10, 0, 0, 0, 1);
        x.law(0, 9);
        fraction(x, 8, 10, 0, 0, 0, 1);
        x.law(0, 0);
        x.law(1, 7);
        fraction(x, 8, 0, 1, 0, 99999999, 100000000);
        x.law(1, 8);
        fraction(x, 8, 0, 10, 0, 1, 1);
        x.law(1, 9);
        fraction(x, 8, 5, 5, 0, 1, 1);
        x.law(0, 8);
        fraction(x, 8, 5, 5, 0, 1, 256);
    }

    @Sentence(in = "Terms", says = "a CHILD does a WONDER with t tenths, else a SIN with u tenths (t, u 0 to 10, "
            + "10 together at most), else nothing")
    static void tenthsAre0To10And10Together() {
        SaintsAhead x = new SaintsAhead();
        x.child(0, 1, 1, 1);
        oddsBounds("t", 0, 10, t -> x.odds(0, 1, t, 0, 0, 0));
        oddsBounds("u", 0, 10, u -> x.odds(0, 1, 0, u, 0, 0));
        oddsBounds("u by a t of 4", 0, 6, u -> x.odds(0, 1, 4, u, 0, 0));
        oddsBounds("t by a u of 4", 0, 6, t -> x.odds(0, 1, t, 4, 0, 0));
        int[][] wrong = {{-1, 11}, {11, -1}, {10, 1}, {1, 10}, {10, 10}, {Integer.MAX_VALUE, Integer.MAX_VALUE},
            {Integer.MIN_VALUE, Integer.MIN_VALUE}, {Integer.MAX_VALUE, Integer.MIN_VALUE}, {1 << 31, 5}, {-5, 10}};
        for (int[] both : wrong) {
            c.due("t " + both[0] + ", u " + both[1], x.odds(0, 1, both[0], both[1], 0, 0), OUTSIDE);
        }
        fraction(x, 1, 10, 0, 0, 1, 1);
        fraction(x, 1, 0, 10, 0, 0, 1);
        fraction(x, 1, 3, 7, 0, 3, 10);
        fraction(x, 1, 3, 0, 0, 3, 10);
        // Nothing is done with the 5 tenths that are left over: two years, a wonder in one and no sin.
        fraction(x, 2, 3, 2, 0, 39, 100);
    }

    @Sentence(in = "Terms", says = "in the first g of them (0 to m) a guard bars the SIN (nothing then)")
    static void guardsAre0ToM() {
        SaintsAhead x = new SaintsAhead();
        x.child(0, 2, 1, 1);
        oddsBounds("g of 8", 0, 8, g -> x.odds(0, 8, 0, 0, g, 0));
        oddsBounds("g of 1", 0, 1, g -> x.odds(0, 1, 0, 0, g, 0));
        oddsBounds("g of 0", 0, 0, g -> x.odds(0, 0, 0, 0, g, 0));
        fraction(x, 3, 0, 5, 0, 1, 8);
        fraction(x, 3, 0, 5, 1, 1, 4);
        fraction(x, 3, 0, 5, 2, 1, 2);
        fraction(x, 3, 0, 5, 3, 1, 1);
        fraction(x, 8, 0, 10, 7, 0, 1);
        fraction(x, 8, 0, 10, 8, 1, 1);
        x.child(0, 1, 1, 1);
        fraction(x, 1, 3, 7, 1, 3, 10);
        fraction(x, 1, 0, 10, 1, 0, 1);
    }

    @Sentence(in = "Terms", says = "that it is a SAINT behind them (SEEN as now; 99 is no matter).")
    static void oddsWithTooFewEyesOrFallenAreNought() {
        SaintsAhead x = new SaintsAhead();
        x.child(0, 9, 0, 0);
        fraction(x, 8, 10, 0, 8, 0, 1);
        x.law(2, 0);
        fraction(x, 8, 10, 0, 8, 1, 1);
        c.tell(x, "Ax");
        fraction(x, 8, 10, 0, 8, 1, 1);
        c.due("done", x.done(), 1);
        fraction(x, 0, 0, 0, 0, 0, 1);
        fraction(x, 8, 10, 0, 8, 0, 1);
    }

    @Sentence(in = "Terms", says = "that it is a SAINT behind them (SEEN as now; 99 is no matter).")
    static void oddsBy99AreNoMatter() {
        SaintsAhead x = new SaintsAhead();
        x.child(0, 99, 1, 99);
        fraction(x, 8, 10, 0, 0, 1, 1);
        fraction(x, 2, 5, 5, 0, 1, 4);
        fraction(x, 2, 5, 1, 0, 81, 100);
        x.child(0, 99, 99, 99);
        fraction(x, 8, 0, 10, 0, 0, 1);
        fraction(x, 8, 10, 0, 0, 0, 1);
    }

    // ---- backing

    private static void backing(SaintsAhead x, int v, int worth, int who) {
        c.due("back(" + v + ", 0)", x.back(v, 0), worth);
        c.due("back(" + v + ", 1)", x.back(v, 1), who);
    }

    @Sentence(in = "Terms", says = "BACK: each CHILD who is there COSTS (0 to 99; 10 at first) and is WORTH so much "
            + "(0 to 999; 10 at first)")
    static void costsAndWorthHaveBounds() {
        SaintsAhead x = new SaintsAhead();
        x.child(0, 0, 0, 0);
        c.due("costs at first", x.told(54), 10);
        c.due("worth at first", x.told(55), 10);
        backing(x, 9, 0, 0);
        backing(x, 10, 10, 1);
        Sentences.bounds(c, "costs", 0, 99, -2, v -> x.offer(0, v, 7, 0));
        c.due("costs of 99", x.told(54), 99);
        backing(x, 98, 0, 0);
        backing(x, 99, 7, 1);
        Sentences.bounds(c, "worth", 0, 999, -2, v -> x.offer(0, 0, v, 0));
        c.due("worth of 999", x.told(55), 999);
        backing(x, 0, 999, 1);
    }

    @Sentence(in = "Terms", says = "BACK: each CHILD who is there COSTS (0 to 99; 10 at first) and is WORTH so much "
            + "(0 to 999; 10 at first)")
    static void whoIsNotThereIsNotBacked() {
        SaintsAhead x = new SaintsAhead();
        backing(x, 999, 0, 0);
        for (int k = 0; k < 6; k++) {
            x.offer(k, 0, 100, 0);
        }
        backing(x, 999, 0, 0);
        x.child(5, 0, 0, 0);
        backing(x, 0, 100, 32);
        c.live(x, "Fx", 1);
        backing(x, 0, 100, 32);
        x.leave(5);
        backing(x, 0, 0, 0);
    }

    @Sentence(in = "Terms", says = "those of them to back with a purse v (0 to 999) for most WORTH together")
    static void aPurseOf0To999() {
        SaintsAhead x = new SaintsAhead();
        Sentences.bounds(c, "v", 0, 999, -2, v -> x.back(v, 0));
        for (int k = 0; k < 6; k++) {
            x.child(k, 0, 0, 0);
            x.offer(k, 99, 999, 0);
        }
        backing(x, 0, 0, 0);
        backing(x, 98, 0, 0);
        backing(x, 99, 999, 1);
        backing(x, 593, 4995, 31);
        backing(x, 594, 5994, 63);
        backing(x, 999, 5994, 63);
        for (int k = 0; k < 6; k++) {
            x.offer(k, 0, k, 0);
        }
        backing(x, 0, 15, 62);
    }

    @Sentence(in = "Terms", says = "how much; who, least as bits. WITNESSES")
    static void ofEqualsTheLeastAsBitsAreBacked() {
        SaintsAhead x = new SaintsAhead();
        for (int k = 0; k < 6; k++) {
            x.child(k, 0, 0, 0);
            x.offer(k, 10, 5, 0);
        }
        backing(x, 10, 5, 1);
        backing(x, 20, 10, 3);
        x.offer(2, 20, 10, 0);
        backing(x, 20, 10, 3);
        x.offer(0, 20, 10, 0);
        backing(x, 20, 10, 1);
        // One who is worth nothing and costs nothing is left out.
        x.offer(0, 0, 0, 0);
        x.offer(5, 0, 0, 0);
        backing(x, 10, 5, 2);
        backing(x, 0, 0, 0);
    }

    // ---- witnesses

    private static void covering(SaintsAhead x, int set, int size, int who) {
        c.due("fewest(" + set + ", 0)", x.fewest(set, 0), size);
        c.due("fewest(" + set + ", 1)", x.fewest(set, 1), who);
    }

    @Sentence(in = "Terms", says = "WITNESSES 0 to 7 saw some of ten WONDERS (bits 0 to 9; none at first)")
    static void witnessesAre0To7AndSawTenWonders() {
        SaintsAhead x = new SaintsAhead();
        c.due("below witness 0", x.told(19), -2);
        c.due("above witness 7", x.told(28), -2);
        for (int w = 0; w < 8; w++) {
            c.due("witness " + w + " at first", x.told(20 + w), 0);
        }
        Sentences.bounds(c, "witness", 0, 7, -1, w -> x.witness(w, 0));
        Sentences.bounds(c, "wonders", 0, 1023, -2, v -> x.witness(7, v));
        c.due("all ten", x.told(27), 1023);
        Sentences.bounds(c, "set", 0, 1023, -2, v -> x.fewest(v, 0));
        for (int bit = 0; bit < 10; bit++) {
            covering(x, 1 << bit, 1, 128);
        }
    }

    @Sentence(in = "Terms", says = "the fewest by whom all of a set were seen: how many; who, least as bits; NONE.")
    static void fewestAreNoneOfNothingToAll() {
        SaintsAhead x = new SaintsAhead();
        covering(x, 0, 0, 0);
        covering(x, 1, -6, -6);
        covering(x, 1023, -6, -6);
        for (int w = 0; w < 8; w++) {
            x.witness(w, w == 7 ? 896 : 1 << w);
        }
        covering(x, 0, 0, 0);
        covering(x, 1023, 8, 255);
        covering(x, 1, 1, 1);
        covering(x, 512, 1, 128);
        x.witness(3, 0);
        covering(x, 1023, -6, -6);
        covering(x, 8, -6, -6);
        covering(x, 1015, 7, 247);
    }

    @Sentence(in = "Terms", says = "the fewest by whom all of a set were seen: how many; who, least as bits; NONE.")
    static void ofEqualsTheLeastAsBitsSawThem() {
        SaintsAhead x = new SaintsAhead();
        x.witness(7, 3);
        x.witness(6, 3);
        covering(x, 3, 1, 64);
        x.witness(0, 1);
        x.witness(1, 2);
        // Fewer go before least.
        covering(x, 3, 1, 64);
        x.witness(6, 0);
        x.witness(7, 0);
        x.witness(5, 1);
        x.witness(4, 2);
        covering(x, 3, 2, 3);
        x.witness(0, 0);
        covering(x, 3, 2, 34);
    }

    // ---- days

    private static SaintsAhead saintsWith(int... days) {
        SaintsAhead x = new SaintsAhead();
        for (int k = 0; k < days.length; k++) {
            x.child(k, 2, 0, 1);
            x.offer(k, 0, 0, days[k]);
        }
        return x;
    }

    private static void days(SaintsAhead x, int many, int... wanted) {
        c.due("day(-1)", x.day(-1), many);
        for (int k = 0; k < wanted.length; k++) {
            c.due("day(" + k + ")", x.day(k), wanted[k]);
        }
    }

    @Sentence(in = "Terms", says = "DAYS: each CHILD may have some of twelve days (bits 0 to 11; all at first)")
    static void daysAreTwelve() {
        SaintsAhead x = new SaintsAhead();
        x.child(0, 2, 0, 1);
        c.due("days at first", x.told(56), 4095);
        days(x, 1, 0);
        Sentences.bounds(c, "days", 0, 4095, -2, v -> x.offer(0, 0, 0, v));
        c.due("days then", x.told(56), 4095);
        for (int d = 0; d < 12; d++) {
            x.offer(0, 0, 0, 1 << d);
            days(x, 1, d);
        }
        x.offer(0, 0, 0, 0);
        days(x, 0, -6);
    }

    @Sentence(in = "Terms", says = "of the SAINTS the most who can have a day each of their own")
    static void theMostWithADay() {
        days(new SaintsAhead(), 0);
        days(saintsWith(0, 0, 0, 0, 0, 0), 0, -6, -6, -6, -6, -6, -6);
        days(saintsWith(4, 4, 4, 4, 4, 4), 1, 2, -6, -6, -6, -6, -6);
        days(saintsWith(4095, 4095, 4095, 4095, 4095, 4095), 6, 0, 1, 2, 3, 4, 5);
        days(saintsWith(1, 3, 6, 12, 24, 48), 6, 0, 1, 2, 3, 4, 5);
        // Each must give way to the next one.
        days(saintsWith(3, 6, 12, 24, 48, 1), 6, 1, 2, 3, 4, 5, 0);
        days(saintsWith(3, 3, 3, 3, 3, 3), 2, 0, 1, -6, -6, -6, -6);
    }

    @Sentence(in = "Terms", says = "of the SAINTS the most who can have a day each of their own")
    static void whoIsNoSaintTakesNoDay() {
        SaintsAhead x = saintsWith(1, 1, 1, 1, 1, 1);
        x.child(0, 1, 0, 1);
        x.leave(1);
        c.live(x, "Cx", 1);
        days(x, 1, -1, -1, -1, 0, -6, -6);
    }

    @Sentence(in = "Terms", says = "the day of one in the first such way (the least SAINT's least day, and so on; none, NONE, "
            + "behind all).")
    static void theFirstWay() {
        days(saintsWith(6, 6), 2, 1, 2);
        days(saintsWith(2049, 2049), 2, 0, 11);
        days(saintsWith(4095, 1, 4095), 3, 1, 0, 2);
        days(saintsWith(3, 1), 2, 1, 0);
        days(saintsWith(3, 2), 2, 0, 1);
        days(saintsWith(1, 1), 1, 0, -6);
        days(saintsWith(2048, 2049, 1), 2, 11, 0, -6);
        days(saintsWith(0, 1), 1, -6, 0);
        // The least has a day, though another one could have it.
        days(saintsWith(2, 3, 1), 2, 1, 0, -6);
        days(saintsWith(1, 2, 3, 7, 7, 7), 3, 0, 1, -6, 2, -6, -6);
        days(saintsWith(7, 1, 2), 3, 2, 0, 1);
    }

    // ---- rivals

    private static void playing(SaintsAhead x, int n, int saint, int moves) {
        c.due("rivals(0, " + n + ", 0)", x.rivals(0, n, 0), saint);
        c.due("rivals(0, " + n + ", 1)", x.rivals(0, n, 1), moves);
    }

    private static SaintsAhead playedBy(int need, int pass, int wonders, int sins) {
        SaintsAhead x = new SaintsAhead();
        x.law(0, need);
        x.law(1, pass);
        x.child(0, wonders, sins, 1);
        return x;
    }

    @Sentence(in = "Terms", says = "RIVALS: by turns, n of them (0 to 12), one who wants a CHILD to be a SAINT (he begins) "
            + "and one who does not")
    static void turnsAre0To12AndHeBegins() {
        SaintsAhead x = playedBy(2, 1, 2, 1);
        Sentences.bounds(c, "n", 0, 12, -2, n -> x.rivals(0, n, 0));
        Sentences.bounds(c, "n, moves", 0, 12, -2, n -> x.rivals(0, n, 1));
        playing(x, 0, 1, 0);
        playing(x, 1, 1, 2);
        playing(x, 2, 0, 0);
        playing(x, 11, 1, 2);
        playing(x, 12, 0, 0);
        SaintsAhead y = playedBy(1, 0, 0, 0);
        playing(y, 0, 0, 0);
        playing(y, 1, 1, 1);
    }

    @Sentence(in = "Terms", says = "he gives it a WONDER, or takes a SIN off (if there is one)")
    static void heTakesNoSinOffWhereThereIsNone() {
        playing(playedBy(0, 0, 5, 0), 1, 1, 1);
        playing(playedBy(0, 0, 5, 0), 2, 0, 0);
        playing(playedBy(0, 0, 5, 1), 1, 1, 1);
        playing(playedBy(0, 0, 5, 2), 1, 0, 0);
        playing(playedBy(0, 1, 5, 3), 1, 0, 0);
        playing(playedBy(0, 1, 5, 1), 1, 1, 2);
        playing(playedBy(0, 1, 5, 1), 2, 1, 1);
    }

    @Sentence(in = "Terms", says = "the other one gives it a SIN, or takes a WONDER off (if there is one)")
    static void theOtherTakesNoWonderOffWhereThereIsNone() {
        playing(playedBy(0, 9, 0, 3), 2, 1, 2);
        playing(playedBy(1, 9, 0, 3), 2, 0, 0);
        playing(playedBy(1, 9, 1, 3), 2, 1, 1);
        playing(playedBy(0, 3, 0, 3), 2, 1, 1);
        playing(playedBy(2, 9, 2, 0), 2, 1, 1);
        playing(playedBy(3, 9, 2, 0), 2, 0, 0);
    }

    @Sentence(in = "Terms", says = "99 is no matter here")
    static void rivalsBy99AreNoMatter() {
        playing(playedBy(9, 0, 99, 0), 1, 1, 1);
        playing(playedBy(9, 1, 99, 0), 12, 1, 1);
        playing(playedBy(9, 9, 99, 3), 12, 1, 2);
        playing(playedBy(9, 9, 99, 99), 12, 0, 0);
    }

    @Sentence(in = "Terms", says = "whether it is a SAINT in the end (1, 0), if both play best, by WONDERS, SINS, SEEN of now")
    static void rivalsPlayByNow() {
        SaintsAhead x = new SaintsAhead();
        x.child(0, 2, 1, 0);
        playing(x, 0, 0, 0);
        playing(x, 11, 0, 0);
        x.law(2, 0);
        playing(x, 0, 1, 0);
        playing(x, 1, 1, 2);
        c.tell(x, "AsAs");
        playing(x, 1, 1, 2);
    }

    @Sentence(in = "Terms", says = "how many of the first's first moves bring it about (0 to 2).")
    static void firstMovesAre0To2() {
        playing(playedBy(0, 9, 0, 0), 0, 1, 0);
        playing(playedBy(2, 1, 0, 1), 1, 0, 0);
        playing(playedBy(2, 1, 1, 1), 1, 1, 1);
        playing(playedBy(2, 1, 2, 2), 1, 1, 1);
        playing(playedBy(2, 1, 2, 1), 1, 1, 2);
    }

    // ---- shares

    private static SaintsAhead heldBy(String parishes) {
        SaintsAhead x = new SaintsAhead();
        x.child(0, 0, 0, 0);
        StringBuilder text = new StringBuilder();
        for (int part = 0; part < parishes.length(); part++) {
            text.append('A').append(part).append(parishes.charAt(part));
        }
        c.live(x, text.toString(), parishes.length());
        return x;
    }

    private static void sharing(SaintsAhead x, int coins, int... wanted) {
        for (int p = 0; p < 4; p++) {
            c.due("share(0, " + coins + ", " + p + ")", x.share(0, coins, p), wanted[p]);
        }
    }

    @Sentence(in = "Terms", says = "SHARE: c coins (0 to 999) are given back to who hold PARTS of a CHILD")
    static void coinsAre0To999() {
        SaintsAhead x = heldBy("b");
        Sentences.bounds(c, "coins", 0, 999, -2, v -> x.share(0, v, 1));
        sharing(x, 0, 0, 0, 0, 0);
        sharing(x, 1, 0, 1, 0, 0);
        sharing(x, 999, 0, 999, 0, 0);
        sharing(heldBy("cccccccc"), 999, 0, 0, 999, 0);
        sharing(heldBy(""), 999, 0, 0, 0, 0);
    }

    @Sentence(in = "Terms", says = "by how many they hold: each so much of c by his PARTS by all (cut)")
    static void sharesAreCut() {
        sharing(heldBy("aab"), 3, 2, 1, 0, 0);
        sharing(heldBy("aab"), 999, 666, 333, 0, 0);
        sharing(heldBy("aab"), 998, 666, 332, 0, 0);
        sharing(heldBy("aab"), 997, 665, 332, 0, 0);
        sharing(heldBy("abbbbbbb"), 999, 124, 875, 0, 0);
    }

    @Sentence(in = "Terms", says = "what is over one each, most PARTS first (of several the least): of a PARISH.")
    static void whatIsOverGoesToMostPartsFirst() {
        SaintsAhead even = heldBy("aabbccdd");
        sharing(even, 1, 1, 0, 0, 0);
        sharing(even, 2, 1, 1, 0, 0);
        sharing(even, 3, 1, 1, 1, 0);
        sharing(even, 4, 1, 1, 1, 1);
        sharing(even, 7, 2, 2, 2, 1);
        SaintsAhead last = heldBy("abcddddd");
        sharing(last, 1, 0, 0, 0, 1);
        sharing(last, 7, 1, 1, 0, 5);
        sharing(last, 999, 125, 125, 124, 625);
        SaintsAhead two = heldBy("dc");
        sharing(two, 1, 0, 0, 1, 0);
        sharing(two, 999, 0, 0, 500, 499);
    }
}
