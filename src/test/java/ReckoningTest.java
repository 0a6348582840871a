/** Promises 18 to 23: odds, backing, witnesses, days, rivals, shares. */
public final class ReckoningTest {
    private static final Checks c = new Checks();

    public static void main(String[] args) {
        odds();
        oddsRefused();
        back();
        fewest();
        day();
        dayBehindAll();
        rivals();
        rivalsRefused();
        share();
        shareRefused();
        c.end();
    }

    private static void fraction(SaintsAhead x, int m, int t, int u, int g, long upper, long lower) {
        String call = "odds(0, " + m + ", " + t + ", " + u + ", " + g + ", ";
        c.due(call + "0)", x.odds(0, m, t, u, g, 0), upper);
        c.due(call + "1)", x.odds(0, m, t, u, g, 1), lower);
    }

    private static void odds() {
        SaintsAhead x = new SaintsAhead();
        x.child(0, 0, 0, 1);
        fraction(x, 0, 0, 0, 0, 0, 1);
        fraction(x, 1, 10, 0, 0, 0, 1);
        fraction(x, 2, 10, 0, 0, 1, 1);
        fraction(x, 2, 5, 0, 0, 1, 4);
        fraction(x, 3, 5, 5, 0, 1, 2);
        // Two wonders at least and a sin at most, in four years by halves: 6 + 4 + 1 of 16, less 6.
        fraction(x, 4, 5, 5, 0, 5, 16);
        fraction(x, 4, 5, 5, 3, 11, 16);
        fraction(x, 4, 5, 5, 4, 11, 16);
        fraction(x, 8, 10, 0, 8, 1, 1);
        fraction(x, 8, 0, 10, 0, 0, 1);
        x.law(0, 0);
        x.law(1, 9);
        fraction(x, 8, 0, 10, 0, 1, 1);
        x.law(1, 7);
        fraction(x, 8, 0, 5, 0, 255, 256);
        fraction(x, 8, 0, 5, 1, 1, 1);
        x.law(0, 8);
        fraction(x, 8, 5, 0, 0, 1, 256);
        x.law(0, 2);
        x.law(1, 1);
        x.law(2, 2);
        fraction(x, 2, 10, 0, 0, 0, 1);
        x.child(0, 99, 99, 2);
        fraction(x, 1, 10, 0, 0, 0, 1);
        x.child(0, 99, 1, 2);
        fraction(x, 1, 1, 3, 0, 7, 10);
        c.tell(x, "Ax");
        x.done();
        fraction(x, 0, 0, 0, 0, 0, 1);
        fraction(x, 8, 10, 0, 0, 0, 1);
    }

    private static void oddsRefused() {
        SaintsAhead x = new SaintsAhead();
        long unknown = -1000000000000000001L;
        long outside = -1000000000000000002L;
        c.due("none there", x.odds(0, 0, 0, 0, 0, 0), unknown);
        x.child(0, 2, 0, 1);
        c.due("child -1", x.odds(-1, 9, 0, 0, 0, 0), unknown);
        c.due("child 6", x.odds(6, 0, 0, 0, 0, 0), unknown);
        c.due("m -1", x.odds(0, -1, 0, 0, 0, 0), outside);
        c.due("m 9", x.odds(0, 9, 0, 0, 0, 0), outside);
        c.due("t -1", x.odds(0, 1, -1, 5, 0, 0), outside);
        c.due("t 11", x.odds(0, 1, 11, -1, 0, 0), outside);
        c.due("u -1", x.odds(0, 1, 5, -1, 0, 0), outside);
        c.due("u 11", x.odds(0, 1, -1, 11, 0, 0), outside);
        c.due("t and u", x.odds(0, 1, 6, 5, 0, 0), outside);
        c.due("t and u wrap", x.odds(0, 1, Integer.MAX_VALUE, Integer.MAX_VALUE, 0, 0), outside);
        c.due("g -1", x.odds(0, 1, 1, 1, -1, 0), outside);
        c.due("g 2 of 1", x.odds(0, 1, 1, 1, 2, 0), outside);
        c.due("part -1", x.odds(0, 1, 1, 1, 1, -1), outside);
        c.due("part 2", x.odds(0, 1, 1, 1, 1, 2), outside);
        c.due("all at the edge", x.odds(0, 8, 10, 0, 8, 1), 1);
    }

    private static void backing(SaintsAhead x, int v, int worth, int who) {
        c.due("back(" + v + ", 0)", x.back(v, 0), worth);
        c.due("back(" + v + ", 1)", x.back(v, 1), who);
    }

    private static void back() {
        SaintsAhead x = new SaintsAhead();
        c.due("v -1", x.back(-1, 0), -2);
        c.due("v 1000", x.back(1000, 0), -2);
        c.due("what -1", x.back(0, -1), -2);
        c.due("what 2", x.back(0, 2), -2);
        backing(x, 999, 0, 0);
        for (int k = 1; k < 6; k++) {
            x.child(k, 0, 0, 0);
        }
        backing(x, 9, 0, 0);
        backing(x, 10, 10, 2);
        backing(x, 29, 20, 6);
        backing(x, 999, 50, 62);
        x.offer(0, 0, 999, 0);
        backing(x, 10, 10, 2);
        x.offer(5, 30, 40, 0);
        backing(x, 30, 40, 32);
        x.offer(5, 30, 30, 0);
        backing(x, 30, 30, 14);
        x.offer(4, 0, 0, 0);
        backing(x, 30, 30, 14);
        x.offer(4, 0, 1, 0);
        backing(x, 0, 1, 16);
        c.tell(x, "Ex");
        x.done();
        backing(x, 0, 1, 16);
        for (int k = 0; k < 6; k++) {
            x.child(k, 0, 0, 0);
            x.offer(k, 99, 999, 0);
        }
        backing(x, 593, 5 * 999, 31);
        backing(x, 594, 6 * 999, 63);
    }

    private static void covering(SaintsAhead x, int set, int size, int who) {
        c.due("fewest(" + set + ", 0)", x.fewest(set, 0), size);
        c.due("fewest(" + set + ", 1)", x.fewest(set, 1), who);
    }

    private static void fewest() {
        SaintsAhead x = new SaintsAhead();
        c.due("set -1", x.fewest(-1, 0), -2);
        c.due("set 1024", x.fewest(1024, 0), -2);
        c.due("what -1", x.fewest(0, -1), -2);
        c.due("what 2", x.fewest(0, 2), -2);
        covering(x, 0, 0, 0);
        covering(x, 1, -6, -6);
        for (int w = 0; w < 8; w++) {
            x.witness(w, 1 << w);
        }
        covering(x, 255, 8, 255);
        covering(x, 256, -6, -6);
        covering(x, 129, 2, 129);
        x.witness(7, 768 + 7);
        covering(x, 1023, -6, -6);
        x.witness(6, 192);
        covering(x, 1023, 5, 248);
        covering(x, 7, 1, 128);
        x.witness(3, 15);
        covering(x, 7, 1, 8);
        x.witness(0, 1023);
        covering(x, 1023, 1, 1);
    }

    private static void days(SaintsAhead x, int... wanted) {
        int many = 0;
        for (int k = 0; k < 6; k++) {
            c.due("day(" + k + ")", x.day(k), wanted[k]);
            many += wanted[k] >= 0 ? 1 : 0;
        }
        c.due("day(-1)", x.day(-1), many);
    }

    private static void day() {
        SaintsAhead x = new SaintsAhead();
        c.due("day(-2)", x.day(-2), -1);
        c.due("day(6)", x.day(6), -1);
        c.due("day(33)", x.day(33), -1);
        days(x, -1, -1, -1, -1, -1, -1);
        for (int k = 0; k < 6; k++) {
            x.child(k, 2, 0, 1);
        }
        days(x, 0, 1, 2, 3, 4, 5);
        for (int k = 0; k < 6; k++) {
            x.offer(k, 0, 0, 1 << 11 - k);
        }
        days(x, 11, 10, 9, 8, 7, 6);
        x.offer(0, 0, 0, 4095);
        x.offer(1, 0, 0, 1);
        days(x, 1, 0, 9, 8, 7, 6);
        x.child(1, 1, 0, 1);
        days(x, 0, -1, 9, 8, 7, 6);
        c.tell(x, "Cx");
        x.done();
        days(x, 0, -1, -1, 8, 7, 6);
        x.leave(3);
        days(x, 0, -1, -1, -1, 7, 6);
    }

    private static void dayBehindAll() {
        SaintsAhead x = new SaintsAhead();
        for (int k = 0; k < 6; k++) {
            x.child(k, 2, 0, 1);
            x.offer(k, 0, 0, 7);
        }
        days(x, 0, 1, 2, -6, -6, -6);
        x.offer(3, 0, 0, 8);
        x.offer(0, 0, 0, 0);
        days(x, -6, 0, 1, 3, 2, -6);
        // The least has none only where any day of his would cost one of the others his own.
        x.offer(0, 0, 0, 1);
        x.offer(1, 0, 0, 3);
        x.offer(2, 0, 0, 2);
        x.offer(3, 0, 0, 6);
        x.offer(4, 0, 0, 0);
        x.offer(5, 0, 0, 4);
        days(x, 0, 1, -6, 2, -6, -6);
        x.offer(0, 0, 0, 16 + 8);
        x.offer(5, 0, 0, 8);
        days(x, 4, 0, 1, 2, -6, 3);
    }

    private static void playing(SaintsAhead x, int n, int saint, int moves) {
        c.due("rivals(0, " + n + ", 0)", x.rivals(0, n, 0), saint);
        c.due("rivals(0, " + n + ", 1)", x.rivals(0, n, 1), moves);
    }

    private static void rivals() {
        SaintsAhead x = new SaintsAhead();
        x.child(0, 2, 1, 1);
        playing(x, 0, 1, 0);
        playing(x, 1, 1, 2);
        playing(x, 2, 0, 0);
        x.child(0, 1, 1, 1);
        playing(x, 0, 0, 0);
        playing(x, 1, 1, 1);
        x.child(0, 2, 2, 1);
        playing(x, 1, 1, 1);
        x.law(0, 1);
        x.child(0, 0, 1, 1);
        playing(x, 1, 1, 1);
        x.law(0, 2);
        x.child(0, 2, 0, 1);
        playing(x, 1, 1, 1);
        playing(x, 2, 1, 1);
        x.child(0, 5, 0, 0);
        playing(x, 3, 0, 0);
        x.child(0, 99, 0, 1);
        playing(x, 1, 1, 1);
        // Each sin that is given is taken off again, and the last one passes.
        playing(x, 12, 1, 1);
        x.law(1, 0);
        playing(x, 12, 0, 0);
        x.child(0, 99, 99, 1);
        playing(x, 12, 0, 0);
        x.law(1, 9);
        x.child(0, 99, 3, 1);
        playing(x, 12, 1, 2);
        // No wonder can be taken off where there is none, so a sin is given.
        x.law(0, 0);
        x.law(1, 0);
        x.child(0, 0, 0, 1);
        playing(x, 2, 0, 0);
        playing(x, 3, 1, 1);
        x.law(1, 1);
        playing(x, 2, 1, 1);
    }

    private static void rivalsRefused() {
        SaintsAhead x = new SaintsAhead();
        c.due("none there", x.rivals(0, 0, 0), -1);
        x.child(0, 2, 0, 1);
        c.due("child -1", x.rivals(-1, 13, 0), -1);
        c.due("child 6", x.rivals(6, 0, 0), -1);
        c.due("n -1", x.rivals(0, -1, 0), -2);
        c.due("n 13", x.rivals(0, 13, 0), -2);
        c.due("what -1", x.rivals(0, 0, -1), -2);
        c.due("what 2", x.rivals(0, 0, 2), -2);
        c.tell(x, "Ax");
        x.done();
        c.due("fallen", x.rivals(0, 0, 0), -3);
        c.due("fallen, moves", x.rivals(0, 1, 1), -3);
        c.due("fallen, n 13", x.rivals(0, 13, 0), -2);
    }

    private static void sharing(SaintsAhead x, int coins, int... wanted) {
        for (int p = 0; p < 4; p++) {
            c.due("share(0, " + coins + ", " + p + ")", x.share(0, coins, p), wanted[p]);
        }
    }

    private static void share() {
        SaintsAhead x = new SaintsAhead();
        x.child(0, 0, 0, 0);
        x.child(1, 0, 0, 0);
        sharing(x, 999, 0, 0, 0, 0);
        c.tell(x, "A0bA1bA2cA3cA4dA5aA6dB0aB1a");
        x.done();
        sharing(x, 0, 0, 0, 0, 0);
        sharing(x, 1, 0, 1, 0, 0);
        sharing(x, 2, 0, 1, 1, 0);
        sharing(x, 3, 0, 1, 1, 1);
        sharing(x, 4, 0, 2, 1, 1);
        sharing(x, 6, 0, 2, 2, 2);
        sharing(x, 7, 1, 2, 2, 2);
        sharing(x, 999, 142, 286, 286, 285);
        c.tell(x, "A7d");
        x.done();
        sharing(x, 8, 1, 2, 2, 3);
        sharing(x, 9, 1, 2, 2, 4);
        sharing(x, 10, 1, 3, 2, 4);
        c.due("of another child", x.share(1, 999, 0), 999);
        c.tell(x, "Ax");
        x.done();
        sharing(x, 9, 0, 0, 0, 0);
    }

    private static void shareRefused() {
        SaintsAhead x = new SaintsAhead();
        c.due("none there", x.share(0, 0, 0), -1);
        x.child(0, 0, 0, 0);
        c.due("child -1", x.share(-1, 1000, 0), -1);
        c.due("child 6", x.share(6, 0, 0), -1);
        c.due("parish -1", x.share(0, 1000, -1), -1);
        c.due("parish 4", x.share(0, 0, 4), -1);
        c.due("coins -1", x.share(0, -1, 0), -2);
        c.due("coins 1000", x.share(0, 1000, 0), -2);
    }
}
