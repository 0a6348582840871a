/** Promises 1 to 10: a new object, children, the law, purses, offers, witnesses, the pad. */
public final class ChildrenTest {
    private static final Checks c = new Checks();

    public static void main(String[] args) {
        aNewObject();
        child();
        childAnew();
        leave();
        law();
        purse();
        offer();
        witness();
        sayAndWipe();
        fault();
        c.end();
    }

    private static void aNewObject() {
        SaintsAhead x = new SaintsAhead();
        int[] told = {0, 0, 2, 1, 1, 0, 0};
        for (int i = 0; i < told.length; i++) {
            c.due("new told(" + i + ")", x.told(i), told[i]);
        }
        for (int p = 0; p < 4; p++) {
            c.due("new told(10 and " + p + ")", x.told(10 + p), 100);
        }
        for (int w = 0; w < 8; w++) {
            c.due("new told(20 and " + w + ")", x.told(20 + w), 0);
        }
        for (int k = 0; k < 6; k++) {
            c.due("new told of child " + k, x.told(50 * (1 + k)), -2);
        }
        c.due("new restore(0)", x.restore(0), -3);
        c.due("new restore(1)", x.restore(1), -3);
        c.due("new fault()", x.fault(), -6);
        c.due("new saints()", x.saints(), 0);
        c.due("new laws(-1)", x.laws(-1), 100);
    }

    private static void child() {
        SaintsAhead x = new SaintsAhead();
        c.due("child(-1)", x.child(-1, 0, 0, 0), -1);
        c.due("child(6)", x.child(6, 0, 0, 0), -1);
        c.due("child(6) with more wrong", x.child(6, 100, -1, 0), -1);
        c.due("child least int", x.child(Integer.MIN_VALUE, 0, 0, 0), -1);
        c.due("child wonders 100", x.child(0, 100, 0, 0), -2);
        c.due("child wonders -1", x.child(0, -1, 0, 0), -2);
        c.due("child sins 100", x.child(0, 0, 100, 0), -2);
        c.due("child sins -1", x.child(0, 0, -1, 0), -2);
        c.due("child seen 100", x.child(0, 0, 0, 100), -2);
        c.due("child seen -1", x.child(0, 0, 0, -1), -2);
        c.due("refused children", x.told(1), 0);
        c.due("child(5)", x.child(5, 99, 98, 97), 1);
        c.due("child(0)", x.child(0, 1, 2, 3), 2);
        c.due("children", x.told(1), 33);
        int[] of5 = {99, 98, 97, 0, 10, 10, 4095};
        for (int i = 0; i < of5.length; i++) {
            c.due("told(300 and " + i + ")", x.told(300 + i), of5[i]);
        }
        for (int part = 0; part < 8; part++) {
            c.due("part " + part, x.told(310 + part), -6);
        }
    }

    private static void childAnew() {
        SaintsAhead x = new SaintsAhead();
        x.child(2, 5, 5, 5);
        x.offer(2, 7, 8, 9);
        c.tell(x, "C3bC4cD");
        c.due("wipe", x.wipe(), 7);
        c.tell(x, "C3bC4c");
        c.due("done", x.done(), 2);
        c.due("part 3", x.told(163), 1);
        c.due("anew", x.child(2, 1, 0, 4), 1);
        c.due("anew wonders", x.told(150), 1);
        c.due("anew sins", x.told(151), 0);
        c.due("anew seen", x.told(152), 4);
        c.due("anew part 3", x.told(163), -6);
        c.due("anew part 4", x.told(164), -6);
        c.due("anew: no refund", x.told(11), 90);
        c.due("anew: offer stays", x.told(154), 7);
        c.tell(x, "Cx");
        c.due("falls", x.done(), 1);
        c.due("fallen", x.told(153), 1);
        c.due("refused anew", x.child(2, 100, 0, 0), -2);
        c.due("still fallen", x.told(153), 1);
        c.due("anew", x.child(2, 9, 0, 9), 1);
        c.due("not fallen", x.told(153), 0);
        c.due("a saint", x.saints(), 4);
    }

    private static void leave() {
        SaintsAhead x = new SaintsAhead();
        c.due("leave none", x.leave(0), -1);
        c.due("leave(-1)", x.leave(-1), -1);
        c.due("leave(6)", x.leave(6), -1);
        c.due("leave(32)", x.leave(32), -1);
        x.child(0, 9, 0, 9);
        x.child(1, 9, 0, 9);
        x.offer(0, 1, 2, 3);
        c.tell(x, "A0aA1aB2b");
        x.done();
        c.due("leave(0)", x.leave(0), 1);
        c.due("leave(0) twice", x.leave(0), -1);
        c.due("children", x.told(1), 2);
        c.due("told of it", x.told(50), -2);
        c.due("no refund", x.told(10), 80);
        c.due("parts held", x.book(2, 1, 2), 1);
        c.due("saints", x.saints(), 2);
        c.due("back", x.child(0, 0, 0, 0), 2);
        c.due("its part", x.told(60), -6);
        c.due("its offer stays", x.told(56), 3);
        c.tell(x, "Ax");
        x.done();
        x.leave(0);
        x.child(0, 9, 0, 9);
        c.due("fallen no more", x.told(53), 0);
    }

    private static void law() {
        SaintsAhead x = new SaintsAhead();
        c.due("law(-1, 0)", x.law(-1, 0), -2);
        c.due("law(3, 0)", x.law(3, 0), -2);
        int[] first = {2, 1, 1};
        for (int which = 0; which < 3; which++) {
            c.due("law(" + which + ", 10)", x.law(which, 10), -2);
            c.due("law(" + which + ", -1)", x.law(which, -1), -2);
            c.due("law(" + which + ", 9)", x.law(which, 9), first[which]);
            c.due("law(" + which + ", 0)", x.law(which, 0), 9);
            c.due("law(" + which + ", n)", x.law(which, 3 + which), 0);
        }
        for (int which = 0; which < 3; which++) {
            c.due("told(2 and " + which + ")", x.told(2 + which), 3 + which);
        }
        x.child(0, 3, 4, 5);
        c.due("just a saint", x.saints(), 1);
        x.child(0, 2, 4, 5);
        c.due("a wonder short", x.saints(), 0);
        x.child(0, 3, 5, 5);
        c.due("a sin too many", x.saints(), 0);
        x.child(0, 3, 4, 4);
        c.due("a witness short", x.saints(), 0);
    }

    private static void purse() {
        SaintsAhead x = new SaintsAhead();
        c.due("purse(-1)", x.purse(-1, 0), -1);
        c.due("purse(4)", x.purse(4, 0), -1);
        c.due("purse(4, 1000)", x.purse(4, 1000), -1);
        c.due("purse 1000", x.purse(0, 1000), -2);
        c.due("purse -1", x.purse(0, -1), -2);
        for (int p = 0; p < 4; p++) {
            c.due("purse(" + p + ", 999)", x.purse(p, 999), 100);
            c.due("purse(" + p + ", 0)", x.purse(p, 0), 999);
            c.due("purse(" + p + ", n)", x.purse(p, 11 * p), 0);
        }
        for (int p = 0; p < 4; p++) {
            c.due("told(10 and " + p + ")", x.told(10 + p), 11 * p);
        }
    }

    private static void offer() {
        SaintsAhead x = new SaintsAhead();
        c.due("offer(-1)", x.offer(-1, 0, 0, 0), -1);
        c.due("offer(6)", x.offer(6, 100, 0, 0), -1);
        c.due("costs 100", x.offer(0, 100, 0, 0), -2);
        c.due("costs -1", x.offer(0, -1, 0, 0), -2);
        c.due("worth 1000", x.offer(0, 0, 1000, 0), -2);
        c.due("worth -1", x.offer(0, 0, -1, 0), -2);
        c.due("days 4096", x.offer(0, 0, 0, 4096), -2);
        c.due("days -1", x.offer(0, 0, 0, -1), -2);
        c.due("offer to one not there", x.offer(5, 99, 999, 0), 4095);
        c.due("offer again", x.offer(5, 98, 997, 4095), 0);
        x.child(5, 0, 0, 0);
        c.due("costs", x.told(304), 98);
        c.due("worth", x.told(305), 997);
        c.due("days", x.told(306), 4095);
    }

    private static void witness() {
        SaintsAhead x = new SaintsAhead();
        c.due("witness(-1)", x.witness(-1, 0), -1);
        c.due("witness(8)", x.witness(8, 1024), -1);
        c.due("1024", x.witness(0, 1024), -2);
        c.due("-1", x.witness(0, -1), -2);
        for (int w = 0; w < 8; w++) {
            c.due("witness(" + w + ", 1023)", x.witness(w, 1023), 0);
            c.due("witness(" + w + ", n)", x.witness(w, w), 1023);
        }
        for (int w = 0; w < 8; w++) {
            c.due("told(20 and " + w + ")", x.told(20 + w), w);
        }
    }

    private static void sayAndWipe() {
        SaintsAhead x = new SaintsAhead();
        c.due("say(32)", x.say(32), -2);
        c.due("say(127)", x.say(127), -2);
        c.due("say(-1)", x.say(-1), -2);
        c.due("say(65 and 65536)", x.say(65 + 65536), -2);
        c.due("say(33)", x.say(33), 1);
        c.due("say(126)", x.say(126), 2);
        c.due("wipe", x.wipe(), 2);
        c.due("wipe empty", x.wipe(), 0);
        for (int i = 1; i <= 60; i++) {
            c.due("say of year " + i, x.say('.'), i);
        }
        c.due("say the 61st", x.say('.'), -4);
        c.due("say the 61st, outside", x.say(32), -2);
        c.due("signs", x.told(0), 60);
        c.due("no fault", x.fault(), -6);
        c.due("60 years", x.done(), 60);
        c.due("the pad is empty", x.told(0), 0);
    }

    private static void fault() {
        SaintsAhead x = new SaintsAhead();
        c.due("empty", x.fault(), -6);
        String[] good = {"Aw", "Fs", "Bp", "Ce", "Dx", "E0a", "A7d", "faA", "fdF", ".", "..AwfaA.B3c", "AwAwAw"};
        for (String text : good) {
            c.retell(x, text);
            c.due("fault of " + text, x.fault(), -6);
            c.due("judge of " + text, x.judge(0) == -5 ? 1 : 0, 0);
        }
        String[] bad = {"G", "a", "w", "@w", "Af", "A.", "A8", "A/a", "AA", "A0e", "A0A", "A0`", "A0", "A", "f", "fa",
            "fA", "fe", "faG", "faa", "f.", "fa.", "!", "~", "Aw!", "AwB", "Awfa", ".A0", "0", "AwA0aA0e.", "Aw.fx"};
        int[] places = {0, 0, 0, 0, 1, 1, 1, 1, 1, 2, 2, 2, 2, 1, 1, 2,
            1, 1, 2, 2, 1, 2, 0, 0, 2, 3, 4, 3, 0, 7, 4};
        for (int i = 0; i < bad.length; i++) {
            c.retell(x, bad[i]);
            c.due("fault of " + bad[i], x.fault(), places[i]);
            c.due("judge of " + bad[i], x.judge(0), -5);
        }
        c.retell(x, "A");
        c.due("more must come", x.fault(), 1);
        x.say('0');
        c.due("more must come still", x.fault(), 2);
        x.say('a');
        c.due("it came", x.fault(), -6);
        x.say(200);
        c.due("a refused sign changes nothing", x.fault(), -6);
    }
}
