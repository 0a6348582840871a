import java.util.ArrayList;
import java.util.List;

/** 'What it is' and the first paragraph of 'Terms': 512 calls, the order of the refusals, that they change nothing. */
public final class BoundsRefusalsTest {
    private static final Checks c = new Checks();
    private static final String FINE = "A0a.Bw", FAULTY = "Aw!", BARRED = "AwCw";
    private static final int[] THERE = {0, 1, 2, 5};

    public static void main(String[] args) throws IllegalAccessException {
        Sentences.hold(BoundsRefusalsTest.class, c);
    }

    // ---- What it is

    @Sentence(in = "What it is", says = "An object is used for at most 512 calls after it has been made")
    static void the512thCallIsAnswered() {
        SaintsAhead x = new SaintsAhead();
        for (int i = 1; i <= 512; i++) {
            c.due("law, call " + i, x.law(0, i % 10), i == 1 ? 2 : (i - 1) % 10);
        }
    }

    @Sentence(in = "What it is", says = "An object is used for at most 512 calls after it has been made")
    static void the512thCallIsAnsweredByImages() {
        SaintsAhead x = new SaintsAhead();
        for (int i = 1; i <= 509; i += 4) {
            c.due("child, call " + i, x.child(0, i % 100, 0, 0), 1);
            c.due("image, call " + (i + 1), x.image(i / 4 % 2), 1);
            c.due("restore, call " + (i + 2), x.restore(i / 4 % 2), 1);
            c.due("told, call " + (i + 3), x.told(50), i % 100);
        }
    }

    @Sentence(in = "What it is", says = "An object is used for at most 512 calls after it has been made")
    static void the512thCallIsAnsweredByTheDearest() {
        SaintsAhead x = new SaintsAhead();
        x.law(1, 9);
        x.child(0, 99, 3, 1);
        for (int i = 3; i <= 512; i++) {
            c.due("rivals, call " + i, x.rivals(0, 12, 1), 2);
        }
    }

    @Sentence(in = "What it is", says = "what later calls answer is free.")
    static void laterCallsEndAndDoNotThrow() {
        SaintsAhead x = new SaintsAhead();
        for (int i = 0; i < 512; i++) {
            x.say('.');
        }
        for (int i = -1; i < 100; i++) {
            everyCall(x, i);
        }
        c.due("came here", 1, 1);
    }

    private static void everyCall(SaintsAhead x, int i) {
        x.child(i, i, i, i);
        x.law(i, i);
        x.purse(i, i);
        x.offer(i, i, i, i);
        x.witness(i, i);
        x.say(i);
        x.fault();
        x.judge(i);
        x.behind(i, i);
        x.holds(i, i);
        x.wrong(i);
        x.done();
        x.saints();
        x.lacks(i);
        x.odds(i, i, i, i, i, i);
        x.back(i, i);
        x.fewest(i, i);
        x.day(i);
        x.rivals(i, i, i);
        x.share(i, i, i);
        x.seen(i, i, true);
        x.laws(i);
        x.ask(i);
        x.book(i, i, i);
        x.image(i);
        x.restore(i);
        x.told(i);
        x.wipe();
        x.forget();
        x.leave(i);
    }

    // ---- Terms: the refusals, each as it is told

    @Sentence(in = "Terms", says = "UNKNOWN -1 (there is no such CHILD, PARISH, WITNESS)")
    static void unknownIsMinus1() {
        SaintsAhead x = new SaintsAhead();
        c.due("UNKNOWN", SaintsAhead.UNKNOWN, -1);
        x.child(1, 2, 0, 1);
        for (int k : new int[] {-2, 0, 2, 6, 32, 33, 64, 65, Integer.MAX_VALUE, Integer.MIN_VALUE}) {
            c.due("leave " + k, x.leave(k), -1);
            c.due("behind " + k, x.behind(k, 0), -1);
            c.due("holds, child " + k, x.holds(0, k), -1);
            c.due("lacks " + k, x.lacks(k), -1);
            c.due("odds " + k, x.odds(k, 0, 0, 0, 0, 0), -1000000000000000001L);
            c.due("day " + k, x.day(k), -1);
            c.due("rivals " + k, x.rivals(k, 0, 0), -1);
            c.due("share, child " + k, x.share(k, 0, 0), -1);
        }
        for (int k : new int[] {-1, 8, 32, 64, Integer.MAX_VALUE, Integer.MIN_VALUE}) {
            c.due("child " + k, x.child(k, 0, 0, 0), -1);
            c.due("offer " + k, x.offer(k, 0, 0, 0), -1);
            c.due("purse " + k, x.purse(k, 0), -1);
            c.due("holds, parish " + k, x.holds(k, -1), -1);
            c.due("share, parish " + k, x.share(1, 0, k), -1);
            c.due("witness " + k, x.witness(k, 0), -1);
        }
    }

    @Sentence(in = "Terms", says = "OUTSIDE -2 (another number is not as told)")
    static void outsideIsMinus2() {
        SaintsAhead x = new SaintsAhead();
        c.due("OUTSIDE", SaintsAhead.OUTSIDE, -2);
        x.child(0, 0, 0, 0);
        for (int v : new int[] {-1, 70000, Integer.MAX_VALUE, Integer.MIN_VALUE}) {
            c.due("child " + v, x.child(0, v, v, v), -2);
            c.due("law " + v, x.law(v, 0), -2);
            c.due("law, v " + v, x.law(0, v), -2);
            c.due("purse " + v, x.purse(0, v), -2);
            c.due("offer " + v, x.offer(0, v, v, v), -2);
            c.due("witness " + v, x.witness(0, v), -2);
            c.due("say " + v, x.say(v), -2);
            c.due("judge " + v, x.judge(v), -2);
            c.due("behind " + v, x.behind(0, v), -2);
            c.due("wrong " + v, x.wrong(v), -2);
            c.due("odds " + v, x.odds(0, v, v, v, v, v), -1000000000000000002L);
            c.due("back " + v, x.back(v, v), -2);
            c.due("fewest " + v, x.fewest(v, v), -2);
            c.due("rivals " + v, x.rivals(0, v, v), -2);
            c.due("share " + v, x.share(0, v, 0), -2);
            c.due("seen " + v, x.seen(v, v, true), -2);
            c.due("ask " + v, x.ask(v), -2);
            c.due("book " + v, x.book(v, v, v), -2);
            c.due("image " + v, x.image(v), -2);
            c.due("restore " + v, x.restore(v), -2);
            c.due("told " + v, x.told(v), -2);
        }
    }

    @Sentence(in = "Terms", says = "NO -5 (as told)")
    static void noIsMinus5() {
        SaintsAhead x = new SaintsAhead();
        c.due("NO", SaintsAhead.NO, -5);
        x.child(0, 0, 0, 0);
        c.tell(x, "A");
        c.due("judge(0)", x.judge(0), -5);
        c.due("judge(1)", x.judge(1), -5);
        c.due("judge(2)", x.judge(2), -5);
        c.due("behind", x.behind(0, 0), -5);
        c.due("holds", x.holds(0, 0), -5);
        c.due("holds, the purse", x.holds(0, -1), -5);
        c.due("wrong(0)", x.wrong(0), -5);
        c.due("wrong(1)", x.wrong(1), -5);
        c.due("done", x.done(), -5);
    }

    @Sentence(in = "Terms", says = "STATE -3 (as told)")
    static void stateIsMinus3() {
        SaintsAhead x = new SaintsAhead();
        c.due("STATE", SaintsAhead.STATE, -3);
        x.child(0, 0, 0, 0);
        c.live(x, "Ax", 1);
        c.tell(x, "Aw");
        c.due("judge(2)", x.judge(2), -3);
        c.due("behind", x.behind(0, 0), -3);
        c.due("holds", x.holds(0, 0), -3);
        c.due("holds, the purse", x.holds(0, -1), -3);
        c.due("wrong(0)", x.wrong(0), -3);
        c.due("wrong(1)", x.wrong(1), -3);
        c.due("done", x.done(), -3);
        c.due("lacks", x.lacks(0), -3);
        c.due("rivals(.., 0)", x.rivals(0, 1, 0), -3);
        c.due("rivals(.., 1)", x.rivals(0, 1, 1), -3);
        c.due("restore", x.restore(0), -3);
    }

    @Sentence(in = "Terms", says = "FULL -4")
    static void fullIsMinus4() {
        SaintsAhead x = new SaintsAhead();
        c.due("FULL", SaintsAhead.FULL, -4);
        for (int i = 0; i < 60; i++) {
            x.say('.');
        }
        for (int i = 0; i < 8; i++) {
            x.seen(0, 0, true);
        }
        c.due("say", x.say('.'), -4);
        c.due("seen", x.seen(0, 0, true), -4);
    }

    @Sentence(in = "Terms", says = "Calls that are refused answer, the first of these that fits")
    static void unknownGoesBeforeOutside() {
        SaintsAhead x = new SaintsAhead();
        x.child(1, 0, 0, 0);
        c.due("child", x.child(6, 100, -1, 0), -1);
        c.due("purse", x.purse(4, 1000), -1);
        c.due("offer", x.offer(6, 100, 1000, 4096), -1);
        c.due("witness", x.witness(8, 1024), -1);
        c.due("behind", x.behind(0, 5), -1);
        c.due("odds", x.odds(0, 9, 11, 11, -1, 2), -1000000000000000001L);
        c.due("rivals", x.rivals(0, 13, 2), -1);
        c.due("share, child", x.share(0, 1000, 0), -1);
        c.due("share, parish", x.share(1, 1000, 4), -1);
    }

    @Sentence(in = "Terms", says = "Calls that are refused answer, the first of these that fits")
    static void unknownGoesBeforeNoAndState() {
        SaintsAhead x = new SaintsAhead();
        x.child(1, 0, 0, 0);
        for (String text : new String[] {FAULTY, BARRED}) {
            c.retell(x, text);
            c.due("behind by " + text, x.behind(0, 0), -1);
            c.due("holds, child, by " + text, x.holds(0, 0), -1);
            c.due("holds, parish, by " + text, x.holds(4, 1), -1);
            c.due("holds, the purse, by " + text, x.holds(4, -1), -1);
        }
        c.live(x, "Bx", 1);
        c.due("lacks", x.lacks(0), -1);
        c.due("rivals", x.rivals(0, 0, 0), -1);
    }

    @Sentence(in = "Terms", says = "Calls that are refused answer, the first of these that fits")
    static void outsideGoesBeforeNoAndState() {
        SaintsAhead x = new SaintsAhead();
        x.child(0, 0, 0, 0);
        for (String text : new String[] {FAULTY, BARRED}) {
            c.retell(x, text);
            c.due("judge by " + text, x.judge(3), -2);
            c.due("behind by " + text, x.behind(0, 5), -2);
            c.due("wrong by " + text, x.wrong(2), -2);
        }
        c.live(x, "Ax", 1);
        c.due("rivals, n", x.rivals(0, 13, 0), -2);
        c.due("rivals, what", x.rivals(0, 0, 2), -2);
        c.due("restore", x.restore(2), -2);
    }

    @Sentence(in = "Terms", says = "Calls that are refused answer, the first of these that fits")
    static void noGoesBeforeState() {
        SaintsAhead x = new SaintsAhead();
        x.child(0, 0, 0, 0);
        // The first act can not be, and the text has a fault behind it.
        c.tell(x, "CwAw!");
        c.due("judge", x.judge(2), -5);
        c.due("behind", x.behind(0, 0), -5);
        c.due("holds", x.holds(0, 0), -5);
        c.due("holds, the purse", x.holds(0, -1), -5);
        c.due("wrong", x.wrong(0), -5);
        c.due("done", x.done(), -5);
    }

    @Sentence(in = "Terms", says = "Calls that are refused answer, the first of these that fits")
    static void outsideGoesBeforeFull() {
        SaintsAhead x = new SaintsAhead();
        for (int i = 0; i < 60; i++) {
            x.say('.');
        }
        for (int i = 0; i < 8; i++) {
            x.seen(0, 0, true);
        }
        c.due("say", x.say(32), -2);
        c.due("say", x.say(127), -2);
        c.due("seen, wonders", x.seen(10, 0, true), -2);
        c.due("seen, sins", x.seen(0, -1, true), -2);
    }

    // ---- Terms: They change nothing

    /** A, B and F are there, and C, who is fallen; all else is unlike a new object too. */
    private static SaintsAhead rich(String text) {
        SaintsAhead x = new SaintsAhead();
        x.child(0, 7, 0, 1);
        x.child(2, 4, 1, 3);
        x.seen(1, 1, false);
        x.image(0);
        x.child(0, 2, 1, 5);
        x.child(1, 3, 0, 1);
        x.child(5, 0, 9, 0);
        x.law(0, 3);
        x.law(1, 2);
        x.purse(0, 50);
        x.purse(3, 5);
        x.offer(0, 5, 6, 7);
        x.offer(4, 1, 2, 3);
        x.witness(0, 3);
        x.witness(7, 512);
        x.seen(5, 5, true);
        for (char sign : "A3cB4aCx..".toCharArray()) {
            x.say(sign);
        }
        x.done();
        for (char sign : text.toCharArray()) {
            x.say(sign);
        }
        return x;
    }

    /** All that can be asked of an object and of its images; what is on the PAD by what it answers. */
    private static List<Long> look(SaintsAhead x) {
        List<Long> all = new ArrayList<>();
        all.add((long) x.fault());
        for (int what = 0; what < 3; what++) {
            all.add((long) x.judge(what));
            all.add((long) x.wrong(what));
            all.add((long) x.book(77, 99, what));
        }
        for (int i = -1; i < 3; i++) {
            all.add((long) x.laws(i));
        }
        for (int parish = 0; parish < 4; parish++) {
            all.add((long) x.holds(parish, -1));
        }
        all.add((long) x.fewest(513, 1));
        lookAtTold(x, all);
        for (int k = 1; k >= 0; k--) {
            all.add((long) x.restore(k));
        }
        lookAtTold(x, all);
        all.add((long) x.laws(-1));
        return all;
    }

    private static void lookAtTold(SaintsAhead x, List<Long> all) {
        for (int what = 0; what < 28; what++) {
            all.add((long) x.told(what));
        }
        for (int child : THERE) {
            for (int detail = 0; detail < 18; detail++) {
                all.add((long) x.told(50 * (1 + child) + detail));
            }
        }
    }

    private static void sameAs(SaintsAhead refused, String text) {
        List<Long> got = look(refused);
        List<Long> want = look(rich(text));
        for (int i = 0; i < want.size(); i++) {
            c.due("look " + i + " behind refused calls", got.get(i), want.get(i));
        }
    }

    @Sentence(in = "Terms", says = "They change nothing")
    static void unknownChangesNothing() {
        SaintsAhead x = rich(FINE);
        for (int k : new int[] {-1, 6, 3}) {
            c.due("leave " + k, x.leave(k), -1);
            c.due("behind " + k, x.behind(k, 0), -1);
            c.due("lacks " + k, x.lacks(k), -1);
            c.due("rivals " + k, x.rivals(k, 1, 0), -1);
            c.due("share " + k, x.share(k, 1, 0), -1);
            c.due("odds " + k, x.odds(k, 1, 1, 1, 1, 1), -1000000000000000001L);
        }
        c.due("holds", x.holds(0, 3), -1);
        c.due("day", x.day(2), -1);
        for (int k : new int[] {-1, 8}) {
            c.due("child " + k, x.child(k, 1, 1, 1), -1);
            c.due("purse " + k, x.purse(k, 1), -1);
            c.due("offer " + k, x.offer(k, 1, 1, 1), -1);
            c.due("witness " + k, x.witness(k, 1), -1);
            c.due("holds " + k, x.holds(k, -1), -1);
            c.due("share, parish " + k, x.share(0, 1, k), -1);
        }
        sameAs(x, FINE);
    }

    @Sentence(in = "Terms", says = "They change nothing")
    static void outsideChangesNothing() {
        SaintsAhead x = rich(FINE);
        c.due("child, wonders", x.child(2, 100, 5, 5), -2);
        c.due("child, sins", x.child(2, 5, 100, 5), -2);
        c.due("child, seen", x.child(2, 5, 5, 100), -2);
        c.due("child not there", x.child(3, 5, 5, 100), -2);
        for (int which = 0; which < 3; which++) {
            c.due("law " + which, x.law(which, 10), -2);
        }
        c.due("law 3", x.law(3, 5), -2);
        c.due("purse", x.purse(0, 1000), -2);
        c.due("offer, costs", x.offer(0, 100, 8, 9), -2);
        c.due("offer, worth", x.offer(0, 8, 1000, 9), -2);
        c.due("offer, days", x.offer(0, 8, 9, 4096), -2);
        c.due("witness", x.witness(0, 1024), -2);
        c.due("say", x.say(32), -2);
        c.due("say", x.say(127), -2);
        c.due("judge", x.judge(3), -2);
        c.due("behind", x.behind(0, 5), -2);
        c.due("wrong", x.wrong(2), -2);
        c.due("odds", x.odds(0, 9, 0, 0, 0, 0), -1000000000000000002L);
        c.due("back", x.back(1000, 0), -2);
        c.due("fewest", x.fewest(1024, 0), -2);
        c.due("rivals", x.rivals(0, 13, 0), -2);
        c.due("share", x.share(0, 1000, 0), -2);
        c.due("seen, wonders", x.seen(10, 0, true), -2);
        c.due("seen, sins", x.seen(0, 10, true), -2);
        c.due("ask", x.ask(2), -2);
        c.due("book", x.book(10000, 9, 0), -2);
        c.due("book, m", x.book(9, 100, 0), -2);
        c.due("image", x.image(2), -2);
        c.due("restore", x.restore(2), -2);
        c.due("told", x.told(7), -2);
        sameAs(x, FINE);
    }

    private static void refusedYears(SaintsAhead x, int refusal) {
        c.due("judge", x.judge(2), refusal);
        c.due("behind", x.behind(0, 0), refusal);
        c.due("holds", x.holds(0, 0), refusal);
        c.due("holds, the purse", x.holds(0, -1), refusal);
        c.due("wrong", x.wrong(0), refusal);
        c.due("done", x.done(), refusal);
    }

    @Sentence(in = "Terms", says = "They change nothing")
    static void noChangesNothing() {
        SaintsAhead x = rich(FAULTY);
        refusedYears(x, -5);
        sameAs(x, FAULTY);
    }

    @Sentence(in = "Terms", says = "They change nothing")
    static void stateChangesNothing() {
        // C is fallen, so its wonder can not be; A's before it is not done either.
        SaintsAhead x = rich(BARRED);
        refusedYears(x, -3);
        c.due("lacks", x.lacks(2), -3);
        c.due("rivals", x.rivals(2, 3, 0), -3);
        c.due("restore", x.restore(1), -3);
        sameAs(x, BARRED);
    }

    @Sentence(in = "Terms", says = "They change nothing")
    static void fullChangesNothing() {
        SaintsAhead x = new SaintsAhead();
        for (int i = 0; i < 58; i++) {
            x.say('.');
        }
        c.tell(x, "Aw");
        c.due("say", x.say('!'), -4);
        c.due("say", x.say('.'), -4);
        c.due("signs", x.told(0), 60);
        c.due("no fault", x.fault(), -6);
        c.due("the last act", x.judge(0), 58);
        for (int i = 0; i < 8; i++) {
            x.seen(9, i + 1, true);
        }
        c.due("seen", x.seen(9, 0, false), -4);
        c.due("seen", x.seen(9, 9, true), -4);
        c.due("sights", x.told(6), 8);
        c.due("laws: pass 8 and 9", x.laws(-1), 20);
    }

    // ---- Terms: signs, fractions, sets, constants

    @Sentence(in = "Terms", says = "(a sign that is said changes what fault() tells)")
    static void aSignThatCanNotStandIsTakenAndChangesTheFault() {
        SaintsAhead x = new SaintsAhead();
        c.due("fault of nothing", x.fault(), -6);
        c.due("say of A", x.say('A'), 1);
        c.due("fault of A", x.fault(), 1);
        c.due("say of !", x.say('!'), 2);
        c.due("fault of A!", x.fault(), 1);
        c.due("say of w", x.say('w'), 3);
        c.due("fault of A!w", x.fault(), 1);
        x.wipe();
        c.due("say of .", x.say('.'), 1);
        c.due("say of ~", x.say('~'), 2);
        c.due("fault of .~", x.fault(), 1);
        c.due("a refused sign", x.say(127), -2);
        c.due("fault of .~ still", x.fault(), 1);
    }

    @Sentence(in = "Terms", says = "Fractions are told in lowest terms by part: 0 the upper, 1 the lower number")
    static void fractionsAreInLowestTerms() {
        SaintsAhead x = new SaintsAhead();
        x.child(0, 1, 0, 1);
        // A wonder is wanted, in one year: t of 10.
        int[][] lowest = {{0, 1}, {1, 10}, {1, 5}, {3, 10}, {2, 5}, {1, 2}, {3, 5}, {7, 10}, {4, 5}, {9, 10}, {1, 1}};
        for (int t = 0; t <= 10; t++) {
            c.due("upper of " + t + " tenths", x.odds(0, 1, t, 0, 0, 0), lowest[t][0]);
            c.due("lower of " + t + " tenths", x.odds(0, 1, t, 0, 0, 1), lowest[t][1]);
        }
        c.due("part -1", x.odds(0, 1, 1, 0, 0, -1), -1000000000000000002L);
        c.due("part 2", x.odds(0, 1, 1, 0, 0, 2), -1000000000000000002L);
    }

    @Sentence(in = "Terms", says = "refused with GONE and the refusal.")
    static void fractionsAreRefusedWithGone() {
        SaintsAhead x = new SaintsAhead();
        c.due("GONE", SaintsAhead.GONE, -1000000000000000000L);
        c.due("unknown", x.odds(0, 0, 0, 0, 0, 0), SaintsAhead.GONE + SaintsAhead.UNKNOWN);
        x.child(0, 0, 0, 0);
        c.due("outside", x.odds(0, 9, 0, 0, 0, 1), SaintsAhead.GONE + SaintsAhead.OUTSIDE);
    }

    @Sentence(in = "Terms", says = "Sets are bits.")
    static void setsAreBitsFromTheLeastToTheLast() {
        SaintsAhead x = new SaintsAhead();
        x.child(5, 2, 0, 1);
        c.due("children: the last", x.told(1), 32);
        c.due("saints: the last", x.saints(), 32);
        c.due("back: the last", x.back(10, 1), 32);
        for (int k = 0; k < 6; k++) {
            x.child(k, 2, 0, 1);
        }
        c.due("children: all", x.told(1), 63);
        c.due("saints: all", x.saints(), 63);
        c.due("back: all", x.back(60, 1), 63);
        c.tell(x, "F0d");
        c.due("parts: the least", x.holds(3, 5), 1);
        c.retell(x, "F7d");
        c.due("parts: the last", x.holds(3, 5), 128);
        c.due("parts: none", x.holds(2, 5), 0);
        x.witness(7, 512);
        c.due("witnesses: the last, by the last wonder", x.fewest(512, 1), 128);
        x.witness(0, 1);
        c.due("witnesses: the least, by the least wonder", x.fewest(1, 1), 1);
        x.offer(0, 0, 0, 1);
        c.due("days: the least", x.day(0), 0);
        x.offer(0, 0, 0, 2048);
        c.due("days: the last", x.day(0), 11);
    }

    @Sentence(in = "Terms", says = "What refused calls answer; NONE: there is none.")
    static void noneIsMinus6() {
        SaintsAhead x = new SaintsAhead();
        c.due("NONE", SaintsAhead.NONE, -6);
        c.due("fault", x.fault(), -6);
        c.due("judge(0)", x.judge(0), -6);
        c.due("judge(1)", x.judge(1), -6);
        c.due("wrong(0)", x.wrong(0), -6);
        c.due("fewest", x.fewest(1, 0), -6);
        c.due("laws", x.laws(100), -6);
    }

    @Sentence(in = "Terms", says = "What is told of fractions that are refused: GONE and the refusal.")
    static void goneIsBelowEveryFraction() {
        SaintsAhead x = new SaintsAhead();
        for (int k = -1; k <= 6; k++) {
            c.due("odds of " + k, x.odds(k, 8, 1, 1, 8, 0), -1000000000000000001L);
        }
    }
}
