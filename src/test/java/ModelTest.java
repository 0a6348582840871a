import java.util.Random;

/** Long runs of drawn calls, each answer held against the Model; the draws are the same each time. */
public final class ModelTest {
    private static final int RUNS = 800, CALLS = 512;
    private static final int[] WILD = {Integer.MIN_VALUE, Integer.MAX_VALUE, -7, -2, 64, 1000, 4096, 65537, 1 << 16};
    private static final Checks c = new Checks();

    private final Random draw;
    private final SaintsAhead x = new SaintsAhead();
    private final Model m = new Model();
    private final boolean hard;
    private final int run;
    private String toSay = "";

    private ModelTest(int run) {
        this.run = run;
        draw = new Random(run);
        hard = run % 3 == 0;
    }

    public static void main(String[] args) {
        for (int run = 0; run < RUNS; run++) {
            ModelTest test = new ModelTest(run);
            for (int call = 0; call < CALLS; call++) {
                test.step(call);
            }
        }
        c.end();
    }

    /** Mostly as told, now and then just outside, seldom far outside. */
    private int num(int low, int high) {
        int lot = draw.nextInt(60);
        if (lot == 0) {
            return WILD[draw.nextInt(WILD.length)];
        }
        if (lot == 1) {
            return low - 1;
        }
        if (lot == 2) {
            return high + 1;
        }
        if (lot < 6) {
            return draw.nextBoolean() ? low : high;
        }
        return low + draw.nextInt(high - low + 1);
    }

    private int deeds() {
        return num(0, hard && draw.nextInt(3) > 0 ? 99 : 4);
    }

    private void hold(String call, long got, long want) {
        c.due("run " + run + ": " + call, got, want);
    }

    private void step(int call) {
        if (!toSay.isEmpty()) {
            int sign = toSay.charAt(0);
            toSay = toSay.substring(1);
            hold("say " + sign, x.say(sign), m.say(sign));
            return;
        }
        if (call < 6 && draw.nextInt(5) > 0) {
            enter(call);
            return;
        }
        int lot = draw.nextInt(20);
        if (lot < 4) {
            settle();
        } else if (lot < 11) {
            years();
        } else if (lot < 16) {
            reckon();
        } else {
            learn();
        }
    }

    private void enter(int child) {
        int b = deeds();
        int d = deeds();
        int e = deeds();
        hold("child " + child, x.child(child, b, d, e), m.child(child, b, d, e));
    }

    private void settle() {
        int a = num(0, 5);
        switch (draw.nextInt(9)) {
            case 0: enter(a); break;
            case 1:
                if (draw.nextInt(5) == 0) {
                    hold("leave " + a, x.leave(a), m.leave(a));
                }
                break;
            case 2:
                int which = num(0, 2);
                int v = draw.nextInt(4) == 0 ? num(0, 9) : num(0, 3);
                hold("law " + which + " " + v, x.law(which, v), m.law(which, v));
                break;
            case 3:
                int parish = num(0, 3);
                int purse = draw.nextBoolean() ? num(0, 999) : draw.nextBoolean() ? num(0, 30) : num(970, 999);
                hold("purse " + parish + " " + purse, x.purse(parish, purse), m.purse(parish, purse));
                break;
            case 4:
            case 5:
                int costs = num(0, 99);
                int worth = draw.nextBoolean() ? num(0, 999) : num(0, 4);
                int days = draw.nextInt(4) == 0 ? num(0, 4095) : num(0, 7) << draw.nextInt(2);
                hold("offer " + a + " " + days, x.offer(a, costs, worth, days), m.offer(a, costs, worth, days));
                break;
            case 6:
                int witness = num(0, 7);
                int saw = num(0, 1023) & (draw.nextBoolean() ? -1 : draw.nextInt());
                hold("witness " + witness + " " + saw, x.witness(witness, saw), m.witness(witness, saw));
                break;
            default:
                int what = draw.nextBoolean() ? num(0, 360) : 50 * (1 + draw.nextInt(6)) + num(0, 18);
                hold("told " + what, x.told(what), m.told(what));
                break;
        }
    }

    /** Mostly one that can be behind those that are said already. */
    private String actToSay(Model.World then) {
        String act = anyAct();
        for (int i = 0; i < 9 && draw.nextInt(40) > 0; i++) {
            Model.World tried = then.copy();
            if (act.length() > 1 && act.charAt(0) != '.' && tried.live(act) == 0) {
                break;
            }
            act = anyAct();
        }
        return act;
    }

    private String anyAct() {
        String children = "ABCDEF";
        String there = "";
        for (int k = 0; k < 6; k++) {
            there += m.world.kids.containsKey(k) ? children.charAt(k) : "";
        }
        String from = there.isEmpty() || draw.nextInt(12) == 0 ? children : there;
        char who = from.charAt(draw.nextInt(from.length()));
        char parish = (char) ('a' + draw.nextInt(4));
        int lot = draw.nextInt(24);
        if (lot == 0 && draw.nextInt(4) == 0) {
            return "" + (char) (33 + draw.nextInt(94));
        }
        if (lot < 2) {
            return draw.nextInt(4) == 0 ? "...................." : ".";
        }
        if (lot < 9) {
            return "" + who + draw.nextInt(8) + parish;
        }
        if (lot < 14) {
            return "f" + parish + who;
        }
        return "" + who + "wwwsspeex".charAt(draw.nextInt(9));
    }

    private void years() {
        int what = num(0, 4);
        int child = num(-1, 5);
        int parish = num(0, 3);
        switch (draw.nextInt(12)) {
            case 0:
            case 1:
                int acts = 1 + draw.nextInt(draw.nextInt(8) == 0 ? 30 : 5);
                Model.World then = m.endOfPad();
                for (int i = 0; i < acts; i++) {
                    String act = actToSay(then);
                    toSay += act;
                    if (act.length() > 1 && act.charAt(0) != '.') {
                        then.live(act);
                    }
                }
                break;
            case 2:
                int sign = num(33, 126);
                if (draw.nextInt(9) == 0 || sign < 33 || sign > 126) {
                    hold("say " + sign, x.say(sign), m.say(sign));
                }
                break;
            case 3:
                if (m.judge(0) != -6) {
                    hold("wipe", x.wipe(), m.wipe());
                }
                break;
            case 4: hold("fault", x.fault(), m.fault()); break;
            case 5: hold("judge " + what, x.judge(what), m.judge(what)); break;
            case 6: hold("behind " + child + " " + what, x.behind(child, what), m.behind(child, what)); break;
            case 7: hold("holds " + parish + " " + child, x.holds(parish, child), m.holds(parish, child)); break;
            case 8: hold("wrong " + what / 2, x.wrong(what / 2), m.wrong(what / 2)); break;
            case 9: hold("done", x.done(), m.done()); break;
            case 10: hold("saints", x.saints(), m.saints()); break;
            default: hold("lacks " + child, x.lacks(child), m.lacks(child)); break;
        }
    }

    private void reckon() {
        int child = num(0, 5);
        int what = num(0, 1);
        switch (draw.nextInt(6)) {
            case 0:
                int years = num(0, draw.nextInt(10) == 0 ? 8 : 4);
                int t = num(0, 10);
                int u = draw.nextInt(6) == 0 ? num(0, 10) : num(0, 10 - Math.max(0, Math.min(10, t)));
                int g = num(0, Math.max(0, Math.min(8, years)));
                hold("odds " + child + " " + years + " " + t + " " + u + " " + g + " " + what,
                        x.odds(child, years, t, u, g, what), m.odds(child, years, t, u, g, what));
                break;
            case 1:
                int v = draw.nextBoolean() ? num(0, 999) : num(0, 200);
                hold("back " + v + " " + what, x.back(v, what), m.back(v, what));
                break;
            case 2:
                int set = num(0, 1023) & (draw.nextBoolean() ? -1 : draw.nextInt());
                hold("fewest " + set + " " + what, x.fewest(set, what), m.fewest(set, what));
                break;
            case 3: hold("day " + (child - 1), x.day(child - 1), m.day(child - 1)); break;
            case 4:
                int n = num(0, draw.nextInt(10) == 0 ? 12 : 6);
                hold("rivals " + child + " " + n + " " + what, x.rivals(child, n, what), m.rivals(child, n, what));
                break;
            default:
                int coins = draw.nextBoolean() ? num(0, 999) : num(0, 20);
                int parish = num(0, 3);
                hold("share " + child + " " + coins + " " + parish,
                        x.share(child, coins, parish), m.share(child, coins, parish));
                break;
        }
    }

    private void learn() {
        int what = num(0, 1);
        int k = num(0, 1);
        switch (draw.nextInt(9)) {
            case 0:
            case 1:
                int wonders = num(0, 9);
                int sins = num(0, 9);
                // Mostly lives under one law, so that some laws fit for long.
                boolean saint = draw.nextInt(12) == 0 || wonders >= 3 && sins <= 5;
                hold("seen " + wonders + " " + sins, x.seen(wonders, sins, saint), m.seen(wonders, sins, saint));
                break;
            case 2:
                if (draw.nextInt(5) == 0) {
                    hold("forget", x.forget(), m.forget());
                }
                break;
            case 3:
                int i = num(-1, draw.nextBoolean() ? 100 : 10);
                hold("laws " + i, x.laws(i), m.laws(i));
                break;
            case 4: hold("ask " + what, x.ask(what), m.ask(what)); break;
            case 5:
            case 6:
                int seed = num(0, 9999);
                int acts = num(1, 99);
                int of = num(0, 2);
                hold("book " + seed + " " + acts + " " + of, x.book(seed, acts, of), m.book(seed, acts, of));
                break;
            case 7: hold("image " + k, x.image(k), m.image(k)); break;
            default:
                if (draw.nextInt(3) == 0) {
                    hold("restore " + k, x.restore(k), m.restore(k));
                }
                break;
        }
    }
}
