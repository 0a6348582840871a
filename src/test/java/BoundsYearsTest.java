/** 'Terms', part 2: years judged, what is behind them, false feasts, years done, saints, what lacks. */
public final class BoundsYearsTest {
    private static final Checks c = new Checks();

    public static void main(String[] args) throws IllegalAccessException {
        Sentences.hold(BoundsYearsTest.class, c);
    }

    @Sentence(in = "Terms", says = "JUDGED: the first ACT (from 0 on) that can not be, why")
    static void theFirstActThatCanNotBe() {
        SaintsAhead x = new SaintsAhead();
        x.child(0, 0, 0, 0);
        c.due("of no act", x.judge(0), -6);
        c.due("why of no act", x.judge(1), -6);
        String[] texts = {"Bw", "BwAp", "ApBw", "AwBw", "A0afaABw", ".".repeat(58) + "Bw", "A0a".repeat(20)};
        int[] acts = {0, 0, 0, 1, 2, 58, 1};
        int[] whys = {1, 1, 3, 1, 1, 1, 4};
        for (int i = 0; i < texts.length; i++) {
            c.retell(x, texts[i]);
            c.due("act of " + texts[i], x.judge(0), acts[i]);
            c.due("why of " + texts[i], x.judge(1), whys[i]);
        }
        c.retell(x, "Aw".repeat(30));
        c.due("of thirty that can be", x.judge(0), -6);
        c.due("why of thirty that can be", x.judge(1), -6);
    }

    @Sentence(in = "Terms", says = "how many feasts.")
    static void howManyFeasts() {
        SaintsAhead x = new SaintsAhead();
        x.child(0, 2, 0, 1);
        c.due("of no act", x.judge(2), 0);
        c.tell(x, "Aw.A0a");
        c.due("of none", x.judge(2), 0);
        c.retell(x, "A0a" + "faA".repeat(19));
        c.due("of a full pad", x.judge(2), 19);
    }

    @Sentence(in = "Terms", says = "BEHIND: of a CHILD WONDERS, SINS, SEEN, whether it is a SAINT (1, 0), FALLEN (1, 0).")
    static void behindNoYearsItIsAsNow() {
        SaintsAhead x = new SaintsAhead();
        x.child(5, 99, 1, 99);
        int[] now = {99, 1, 99, 1, 0};
        for (int what = 0; what < 5; what++) {
            c.due("behind(5, " + what + ")", x.behind(5, what), now[what]);
        }
    }

    @Sentence(in = "Terms", says = "BEHIND: of a CHILD WONDERS, SINS, SEEN, whether it is a SAINT (1, 0), FALLEN (1, 0).")
    static void behindAFullPad() {
        SaintsAhead x = new SaintsAhead();
        x.child(0, 84, 0, 84);
        c.tell(x, "AwAe".repeat(15));
        int[] then = {99, 0, 99, 1, 0};
        for (int what = 0; what < 5; what++) {
            c.due("behind(0, " + what + ")", x.behind(0, what), then[what]);
        }
        c.retell(x, "AwAsAs");
        c.due("a sin too many", x.behind(0, 3), 0);
        c.retell(x, "AwAsAsAp");
        c.due("one less", x.behind(0, 3), 1);
        c.retell(x, "AwAx");
        c.due("fallen", x.behind(0, 4), 1);
        c.due("no saint", x.behind(0, 3), 0);
        c.due("its wonders stay", x.behind(0, 0), 85);
        c.due("now it is not", x.told(53), 0);
    }

    @Sentence(in = "Terms", says = "HOLDS behind: PARTS of a CHILD that a PARISH holds, as bits; its PURSE.")
    static void holdsNonePartAndAll() {
        SaintsAhead x = new SaintsAhead();
        x.child(5, 0, 0, 0);
        c.due("none", x.holds(3, 5), 0);
        c.due("purse", x.holds(3, -1), 100);
        c.tell(x, "F0dF1dF2dF3dF4dF5dF6dF7d");
        c.due("all", x.holds(3, 5), 255);
        c.due("purse of one who holds all", x.holds(3, -1), 20);
        c.due("another one holds none", x.holds(0, 5), 0);
        c.due("another's purse", x.holds(0, -1), 100);
        c.tell(x, "Fx");
        c.due("none behind a fall", x.holds(3, 5), 0);
        c.due("purse behind a fall", x.holds(3, -1), 100);
        c.due("purse now", x.told(13), 100);
    }

    @Sentence(in = "Terms", says = "FALSE: the first ACT that is a feast of one who is no SAINT then (NONE)")
    static void theFirstFalseFeast() {
        SaintsAhead x = new SaintsAhead();
        x.child(0, 2, 1, 1);
        c.due("of no act", x.wrong(0), -6);
        c.tell(x, "A0afaA");
        c.due("of a true feast", x.wrong(0), -6);
        c.retell(x, "A0aAsfaA");
        c.due("a sin before", x.wrong(0), 2);
        c.retell(x, "A0afaAAs");
        c.due("a sin behind", x.wrong(0), -6);
        c.retell(x, "A0aAsfaAApfaAAsfaA");
        c.due("the first of two", x.wrong(0), 2);
        c.retell(x, "AsA0aAp" + "faA".repeat(17));
        c.due("of a penance before", x.wrong(0), -6);
        c.due("a saint by the law's edge", x.wrong(1), 0);
        x.child(0, 1, 0, 1);
        c.live(x, "A0a", 1);
        c.tell(x, "faA");
        c.due("act 0", x.wrong(0), 0);
    }

    @Sentence(in = "Terms", says = "how many are. DONE: it is so then.")
    static void howManyFeastsAreFalse() {
        SaintsAhead x = new SaintsAhead();
        x.child(0, 0, 0, 0);
        c.due("of no act", x.wrong(1), 0);
        c.tell(x, "A0a" + "faA".repeat(19));
        c.due("all nineteen", x.wrong(1), 19);
        x.child(0, 2, 1, 1);
        c.retell(x, "A0a" + "faA".repeat(19));
        c.due("not one", x.wrong(1), 0);
    }

    @Sentence(in = "Terms", says = "how many are. DONE: it is so then.")
    static void doneMakesItSo() {
        SaintsAhead x = new SaintsAhead();
        x.child(0, 98, 98, 98);
        c.live(x, "AwAsAe.A7dAx", 6);
        int[] then = {99, 99, 99, 1};
        for (int what = 0; what < 4; what++) {
            c.due("told " + (50 + what), x.told(50 + what), then[what]);
        }
        c.due("year", x.told(5), 1);
        c.due("done of nothing", x.done(), 0);
        c.due("year still", x.told(5), 1);
    }

    @Sentence(in = "Terms", says = "SAINTS now, as bits.")
    static void saintsAreNoneToAll() {
        SaintsAhead x = new SaintsAhead();
        c.due("none", x.saints(), 0);
        for (int k = 0; k < 6; k++) {
            x.child(k, 2, 1, 1);
            c.due("up to " + k, x.saints(), (2 << k) - 1);
        }
        c.tell(x, "AxFx");
        c.due("the pad is not now", x.saints(), 63);
        c.due("done", x.done(), 2);
        c.due("without the least and the last", x.saints(), 30);
    }

    @Sentence(in = "Terms", says = "LACKS: of a CHILD how many WONDERS, and penances, and witnesses more it wants, together, "
            + "to be a SAINT (STATE: it is FALLEN).")
    static void lacksNothingToMost() {
        SaintsAhead x = new SaintsAhead();
        x.child(0, 2, 1, 1);
        c.due("just nothing", x.lacks(0), 0);
        x.child(0, 99, 0, 99);
        c.due("more than enough is nothing", x.lacks(0), 0);
        x.child(0, 1, 1, 1);
        c.due("a wonder", x.lacks(0), 1);
        x.child(0, 2, 2, 1);
        c.due("a penance", x.lacks(0), 1);
        x.child(0, 2, 1, 0);
        c.due("a witness", x.lacks(0), 1);
        x.child(0, 99, 2, 0);
        c.due("wonders beyond do not help", x.lacks(0), 2);
        x.law(0, 9);
        x.law(1, 0);
        x.law(2, 9);
        x.child(0, 0, 99, 0);
        c.due("most of all", x.lacks(0), 117);
        c.live(x, "Ax", 1);
        c.due("fallen", x.lacks(0), -3);
        x.child(0, 99, 0, 99);
        c.due("not fallen any more", x.lacks(0), 0);
        c.live(x, "Ax", 1);
        c.due("fallen, and it would lack nothing", x.lacks(0), -3);
    }
}
