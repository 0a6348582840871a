/** Promises 11 to 17: years judged, what is behind them, false feasts, years done, saints, what lacks. */
public final class YearsTest {
    private static final Checks c = new Checks();

    public static void main(String[] args) {
        reasons();
        leastReason();
        judgeRefusals();
        behind();
        holds();
        fallingGivesBack();
        wrong();
        done();
        lastYear();
        saints();
        lacks();
        c.end();
    }

    private static void barred(SaintsAhead x, String text, int act, int why) {
        c.retell(x, text);
        c.due("judge(0) of " + text, x.judge(0), act);
        c.due("judge(1) of " + text, x.judge(1), why);
        boolean canBe = act == -6;
        c.due("judge(2) of " + text + " is refused", x.judge(2) == -3 ? 1 : 0, canBe ? 0 : 1);
        c.due("wrong(0) of " + text + " is refused", x.wrong(0) == -3 ? 1 : 0, canBe ? 0 : 1);
    }

    private static void reasons() {
        SaintsAhead x = new SaintsAhead();
        x.child(0, 98, 98, 98);
        x.child(1, 0, 1, 0);
        x.purse(3, 19);
        String[] acts = {"Cw", "Cs", "Cp", "Ce", "Cx", "C0a", "faC"};
        for (String act : acts) {
            barred(x, act, 0, 1);
            barred(x, ".Bw" + act, 2, 1);
        }
        String[] ofFallen = {"Aw", "As", "Ap", "Ae", "Ax", "A0a", "faA"};
        for (String act : ofFallen) {
            barred(x, "Ax" + act, 1, 2);
        }
        barred(x, "AwAw", 1, 3);
        barred(x, "AsAs", 1, 3);
        barred(x, "AeAe", 1, 3);
        barred(x, "BpBp", 1, 3);
        barred(x, "AsApAs", -6, -6);
        barred(x, "A0aA0a", 1, 4);
        barred(x, "A0aA0b", 1, 4);
        barred(x, "A0aB0bA1b", -6, -6);
        barred(x, "A0dA1d", 1, 5);
        barred(x, "A0afaA", -6, -6);
        barred(x, "A0afbA", 1, 6);
        barred(x, "A0afaB", 1, 6);
        barred(x, "faA", 0, 6);
        barred(x, "A0aAxB0a", -6, -6);
        barred(x, "Bw.BsBpBeB0aBx", -6, -6);
    }

    private static void leastReason() {
        SaintsAhead x = new SaintsAhead();
        x.child(0, 99, 0, 0);
        x.purse(0, 10);
        barred(x, "A0aA0a", 1, 4);
        barred(x, "A0aA1a", 1, 5);
        barred(x, "AxAw", 1, 2);
        barred(x, "AxAp", 1, 2);
        barred(x, "A0aAxA0aA0a", 2, 2);
        barred(x, "AwBw", 0, 3);
        x.purse(0, 9);
        barred(x, "A0a", 0, 5);
        x.leave(0);
        barred(x, "A0a", 0, 1);
    }

    private static void judgeRefusals() {
        SaintsAhead x = new SaintsAhead();
        c.due("judge(-1)", x.judge(-1), -2);
        c.due("judge(3)", x.judge(3), -2);
        c.due("judge(1) of nothing", x.judge(1), -6);
        c.tell(x, "Aw!");
        c.due("judge(3) by a fault", x.judge(3), -2);
        for (int what = 0; what < 3; what++) {
            c.due("judge(" + what + ") by a fault", x.judge(what), -5);
        }
        x.child(0, 2, 0, 1);
        c.retell(x, "A0afaAfaA.A1bfbA");
        c.due("feasts", x.judge(2), 3);
        x.say('A');
        c.due("feasts by a fault", x.judge(2), -5);
        x.say('p');
        c.due("feasts, one act can not be", x.judge(2), -3);
        c.due("which", x.judge(0), 6);
        c.due("why", x.judge(1), 3);
    }

    private static void behind() {
        SaintsAhead x = new SaintsAhead();
        x.child(4, 1, 2, 0);
        c.due("behind one not there", x.behind(0, 0), -1);
        c.due("behind(-1)", x.behind(-1, 9), -1);
        c.due("behind(6)", x.behind(6, 0), -1);
        c.due("behind what -1", x.behind(4, -1), -2);
        c.due("behind what 5", x.behind(4, 5), -2);
        int[] empty = {1, 2, 0, 0, 0};
        int[] lived = {2, 1, 1, 1, 0};
        int[] fallen = {2, 1, 1, 0, 1};
        for (int what = 0; what < 5; what++) {
            c.due("behind nothing " + what, x.behind(4, what), empty[what]);
        }
        c.tell(x, "EwEpEe");
        for (int what = 0; what < 5; what++) {
            c.due("behind " + what, x.behind(4, what), lived[what]);
            c.due("behind again " + what, x.behind(4, what), lived[what]);
        }
        c.tell(x, "Ex");
        for (int what = 0; what < 5; what++) {
            c.due("behind a fall " + what, x.behind(4, what), fallen[what]);
        }
        c.due("nothing is done", x.told(250), 1);
        x.say('E');
        c.due("behind a fault", x.behind(4, 0), -5);
        c.due("behind a fault, no such child", x.behind(0, 0), -1);
        c.due("behind a fault, outside", x.behind(4, 5), -2);
        x.say('w');
        c.due("behind what can not be", x.behind(4, 0), -3);
        c.due("behind what can not be, outside", x.behind(4, 5), -2);
    }

    private static void holds() {
        SaintsAhead x = new SaintsAhead();
        x.child(1, 0, 0, 0);
        c.due("holds(-1)", x.holds(-1, -1), -1);
        c.due("holds(4)", x.holds(4, 1), -1);
        c.due("holds of one not there", x.holds(0, 0), -1);
        c.due("holds of child -2", x.holds(0, -2), -1);
        c.due("holds of child 6", x.holds(0, 6), -1);
        c.tell(x, "B0aB7aB3d");
        c.due("a holds", x.holds(0, 1), 129);
        c.due("b holds", x.holds(1, 1), 0);
        c.due("d holds", x.holds(3, 1), 8);
        c.due("purse of a", x.holds(0, -1), 80);
        c.due("purse of c", x.holds(2, -1), 100);
        c.due("purse of d", x.holds(3, -1), 90);
        c.due("purse of d now", x.told(13), 100);
        x.say('B');
        c.due("holds by a fault", x.holds(0, 1), -5);
        c.due("purse by a fault", x.holds(0, -1), -5);
        c.due("unknown by a fault", x.holds(4, -1), -1);
        x.say('p');
        c.due("holds by what can not be", x.holds(0, 1), -3);
        c.due("purse by what can not be", x.holds(0, -1), -3);
    }

    private static void fallingGivesBack() {
        SaintsAhead x = new SaintsAhead();
        x.child(0, 0, 0, 0);
        x.child(1, 0, 0, 0);
        c.tell(x, "A0aA1aA2bB0a");
        x.done();
        c.due("a paid", x.told(10), 70);
        x.purse(1, 995);
        c.tell(x, "Ax");
        c.due("a gets for two", x.holds(0, -1), 90);
        c.due("b gets no more than 999", x.holds(1, -1), 999);
        c.due("a holds none", x.holds(0, 0), 0);
        c.due("a holds of B still", x.holds(0, 1), 1);
        x.done();
        c.due("part 2 is nobody's", x.told(62), -6);
        c.due("B's part 0 is a's", x.told(110), 0);
        c.due("A is fallen", x.told(53), 1);
        c.due("B is not", x.told(103), 0);
        x.purse(0, 985);
        c.tell(x, "B1aBx");
        c.due("all of what is above is lost", x.holds(0, -1), 995);
        c.due("A is fallen behind B's fall", x.behind(0, 4), 1);
        c.due("B is fallen", x.behind(1, 4), 1);
    }

    private static void wrong() {
        SaintsAhead x = new SaintsAhead();
        c.due("wrong(-1)", x.wrong(-1), -2);
        c.due("wrong(2)", x.wrong(2), -2);
        x.child(0, 2, 1, 1);
        c.tell(x, "A0afaAAsfaAfaAApfaA");
        c.due("the first false feast", x.wrong(0), 3);
        c.due("false feasts", x.wrong(1), 2);
        c.due("feasts", x.judge(2), 4);
        x.say('f');
        c.due("wrong(2) by a fault", x.wrong(2), -2);
        c.due("wrong(0) by a fault", x.wrong(0), -5);
        c.due("wrong(1) by a fault", x.wrong(1), -5);
        c.tell(x, "bA");
        c.due("wrong(0) by what can not be", x.wrong(0), -3);
        c.due("wrong(1) by what can not be", x.wrong(1), -3);
        c.retell(x, "A0afaA");
        c.due("none is false", x.wrong(0), -6);
        c.due("none at all", x.wrong(1), 0);
        x.law(2, 2);
        c.due("by another law", x.wrong(0), 1);
    }

    private static void done() {
        SaintsAhead x = new SaintsAhead();
        x.child(0, 0, 0, 0);
        c.tell(x, "AwAwAsAeA5c.fcA");
        c.due("done", x.done(), 7);
        c.due("signs", x.told(0), 0);
        c.due("year", x.told(5), 1);
        c.due("wonders", x.told(50), 2);
        c.due("sins", x.told(51), 1);
        c.due("seen", x.told(52), 1);
        c.due("part 5", x.told(65), 2);
        c.due("purse of c", x.told(12), 90);
        c.due("done of nothing", x.done(), 0);
        c.tell(x, "AwA");
        c.due("done by a fault", x.done(), -5);
        c.due("nothing is done", x.told(50), 2);
        c.due("the signs stay", x.told(0), 3);
        c.tell(x, "pAp");
        c.due("done of what can not be", x.done(), -3);
        c.due("nothing is done", x.told(50), 2);
        c.due("the signs stay", x.told(0), 6);
    }

    private static void lastYear() {
        SaintsAhead x = new SaintsAhead();
        String dots = "............................................................";
        c.tell(x, dots);
        c.due("60 years", x.done(), 60);
        c.tell(x, dots);
        c.due("the act", x.judge(0), 39);
        c.due("why", x.judge(1), 7);
        c.due("done", x.done(), -3);
        c.due("year", x.told(5), 60);
        c.retell(x, dots.substring(0, 39));
        c.due("39 years", x.done(), 39);
        c.due("year", x.told(5), 99);
        c.tell(x, ".");
        c.due("why", x.judge(1), 7);
    }

    private static void saints() {
        SaintsAhead x = new SaintsAhead();
        for (int k = 0; k < 6; k++) {
            x.child(k, k, k % 2, 1);
        }
        c.due("saints", x.saints(), 60);
        c.tell(x, "FsExBw");
        c.due("saints before it is done", x.saints(), 60);
        x.done();
        c.due("saints then", x.saints(), 14);
        x.leave(1);
        c.due("one left", x.saints(), 12);
    }

    private static void lacks() {
        SaintsAhead x = new SaintsAhead();
        c.due("lacks(0)", x.lacks(0), -1);
        c.due("lacks(-1)", x.lacks(-1), -1);
        c.due("lacks(6)", x.lacks(6), -1);
        x.child(0, 0, 5, 0);
        c.due("lacks of all", x.lacks(0), 7);
        x.law(0, 9);
        x.law(1, 0);
        x.law(2, 9);
        c.due("lacks by a hard law", x.lacks(0), 23);
        x.child(0, 50, 0, 50);
        c.due("lacks nothing", x.lacks(0), 0);
        c.tell(x, "Ax");
        c.due("lacks before the fall", x.lacks(0), 0);
        x.done();
        c.due("lacks of one fallen", x.lacks(0), -3);
    }
}
