/** The sections 'Promise 1' to 'Promise 17': each sentence of theirs at its edges, each refusal that they name. */
public final class BoundsPromises1Test {
    private static final Checks c = new Checks();

    public static void main(String[] args) throws IllegalAccessException {
        Sentences.hold(BoundsPromises1Test.class, c);
    }

    @Sentence(in = "Promise 1", says = "No CHILDREN, year 0.")
    static void aNewObjectIsEmpty() {
        SaintsAhead x = new SaintsAhead();
        c.due("children", x.told(1), 0);
        c.due("year", x.told(5), 0);
        c.due("signs", x.told(0), 0);
        c.due("sights", x.told(6), 0);
        c.due("image 0", x.restore(0), -3);
        c.due("image 1", x.restore(1), -3);
        SaintsAhead lived = new SaintsAhead();
        lived.child(0, 9, 9, 9);
        c.live(lived, "..", 2);
        SaintsAhead y = new SaintsAhead();
        c.due("children of another", y.told(1), 0);
        c.due("year of another", y.told(5), 0);
    }

    @Sentence(in = "Promise 2", says = "A CHILD is there (or anew: WONDERS, SINS, SEEN; not FALLEN, no PARTS held): how many are.")
    static void childAnswersHowMany() {
        SaintsAhead x = new SaintsAhead();
        for (int k = 5; k >= 0; k--) {
            c.due("child " + k, x.child(k, k, k, k), 6 - k);
        }
        for (int k = 0; k < 6; k++) {
            c.due("anew " + k, x.child(k, 0, 0, 0), 6);
        }
        x.leave(3);
        c.due("again", x.child(3, 0, 0, 0), 6);
    }

    @Sentence(in = "Promise 2", says = "A CHILD is there (or anew: WONDERS, SINS, SEEN; not FALLEN, no PARTS held): how many are.")
    static void childAnewBeginsAgain() {
        for (int k = 0; k < 6; k++) {
            SaintsAhead x = new SaintsAhead();
            char letter = (char) ('A' + k);
            int told = 50 * (1 + k);
            x.child(k, 99, 99, 99);
            c.live(x, letter + "0a" + letter + "7d", 2);
            c.due("anew " + k, x.child(k, 0, 0, 0), 1);
            for (int what = 0; what < 4; what++) {
                c.due("told " + (told + what), x.told(told + what), 0);
            }
            for (int part = 0; part < 8; part++) {
                c.due("part " + part, x.told(told + 10 + part), -6);
            }
            c.due("a's purse stays", x.told(10), 90);
            c.due("d's purse stays", x.told(13), 90);
            c.live(x, letter + "x", 1);
            c.due("fallen", x.told(told + 3), 1);
            c.due("anew again " + k, x.child(k, 0, 0, 0), 1);
            c.due("not fallen", x.told(told + 3), 0);
        }
    }

    @Sentence(in = "Promise 2", says = "UNKNOWN: the number; OUTSIDE.")
    static void childIsRefused() {
        SaintsAhead x = new SaintsAhead();
        Sentences.bounds(c, "child", 0, 5, -1, k -> x.child(k, 0, 0, 0));
        Sentences.bounds(c, "wonders", 0, 99, -2, v -> x.child(1, v, 0, 0));
        Sentences.bounds(c, "sins", 0, 99, -2, v -> x.child(1, 0, v, 0));
        Sentences.bounds(c, "seen", 0, 99, -2, v -> x.child(1, 0, 0, v));
    }

    @Sentence(in = "Promise 3", says = "A CHILD is no more (PARTS are nobody's): how many are.")
    static void leaveAnswersHowMany() {
        SaintsAhead x = new SaintsAhead();
        for (int k = 0; k < 6; k++) {
            x.child(k, 2, 0, 1);
        }
        c.live(x, "A0aA7bB0a", 3);
        for (int k = 0; k < 6; k++) {
            c.due("leave " + k, x.leave(k), 5 - k);
        }
        c.due("no child", x.told(1), 0);
        c.due("no saint", x.saints(), 0);
        c.due("no part is held", x.book(0, 1, 2), 0);
        c.due("no purse gets anything", x.book(0, 1, 1), 370);
        x.child(0, 0, 0, 0);
        c.due("part 0 is nobody's", x.told(60), -6);
        c.due("part 7 is nobody's", x.told(67), -6);
    }

    @Sentence(in = "Promise 3", says = "UNKNOWN: there was none.")
    static void leaveIsRefused() {
        SaintsAhead x = new SaintsAhead();
        x.child(2, 0, 0, 0);
        for (int k : new int[] {-1, 0, 1, 3, 5, 6, 34, 66, Integer.MIN_VALUE, Integer.MIN_VALUE + 2, Integer.MAX_VALUE}) {
            c.due("leave " + k, x.leave(k), -1);
        }
        c.due("leave 2", x.leave(2), 0);
        c.due("leave 2 again", x.leave(2), -1);
    }

    @Sentence(in = "Promise 4", says = "The LAW: NEED (which = 0), PASS (1), EYES (2): which it was.")
    static void lawAnswersWhichItWas() {
        SaintsAhead x = new SaintsAhead();
        int[] first = {2, 1, 1};
        for (int which = 0; which < 3; which++) {
            c.due("law " + which + " at first", x.law(which, 9), first[which]);
            c.due("law " + which + " of 9", x.law(which, 0), 9);
            c.due("law " + which + " of 0", x.law(which, 5 + which), 0);
        }
        for (int which = 0; which < 3; which++) {
            c.due("told " + (2 + which), x.told(2 + which), 5 + which);
        }
    }

    @Sentence(in = "Promise 4", says = "OUTSIDE.")
    static void lawIsRefused() {
        SaintsAhead x = new SaintsAhead();
        Sentences.bounds(c, "which", 0, 2, -2, which -> x.law(which, 3));
        for (int which = 0; which < 3; which++) {
            int of = which;
            Sentences.bounds(c, "law " + which, 0, 9, -2, v -> x.law(of, v));
        }
    }

    @Sentence(in = "Promise 5", says = "PURSE of a PARISH: which it was.")
    static void purseAnswersWhichItWas() {
        SaintsAhead x = new SaintsAhead();
        for (int p = 0; p < 4; p++) {
            c.due("purse at first", x.purse(p, 999), 100);
            c.due("purse of 999", x.purse(p, 0), 999);
            c.due("purse of 0", x.purse(p, p + 1), 0);
        }
        for (int p = 0; p < 4; p++) {
            c.due("told " + (10 + p), x.told(10 + p), p + 1);
        }
    }

    @Sentence(in = "Promise 5", says = "UNKNOWN; OUTSIDE.")
    static void purseIsRefused() {
        SaintsAhead x = new SaintsAhead();
        Sentences.bounds(c, "parish", 0, 3, -1, p -> x.purse(p, 5));
        Sentences.bounds(c, "purse", 0, 999, -2, v -> x.purse(1, v));
        c.due("both", x.purse(4, -1), -1);
    }

    @Sentence(in = "Promise 6", says = "What a CHILD COSTS, is WORTH, its days (be it there or not): which days it had.")
    static void offerAnswersWhichDays() {
        SaintsAhead x = new SaintsAhead();
        for (int k = 0; k < 6; k++) {
            c.due("offer at first", x.offer(k, 99, 999, 0), 4095);
            c.due("offer of no days", x.offer(k, 0, 0, 4095), 0);
            c.due("offer of all days", x.offer(k, k, k + 1, k + 2), 4095);
        }
        for (int k = 0; k < 6; k++) {
            x.child(k, 0, 0, 0);
            c.due("costs of " + k, x.told(50 * (1 + k) + 4), k);
            c.due("worth of " + k, x.told(50 * (1 + k) + 5), k + 1);
            c.due("days of " + k, x.told(50 * (1 + k) + 6), k + 2);
        }
        c.due("of one who is there", x.offer(5, 1, 1, 1), 7);
        x.leave(5);
        c.due("of one who left", x.offer(5, 1, 1, 2), 1);
    }

    @Sentence(in = "Promise 6", says = "UNKNOWN: the number; OUTSIDE: days 0 to 4095.")
    static void offerIsRefused() {
        SaintsAhead x = new SaintsAhead();
        Sentences.bounds(c, "child", 0, 5, -1, k -> x.offer(k, 1, 1, 1));
        Sentences.bounds(c, "costs", 0, 99, -2, v -> x.offer(2, v, 1, 1));
        Sentences.bounds(c, "worth", 0, 999, -2, v -> x.offer(2, 1, v, 1));
        Sentences.bounds(c, "days", 0, 4095, -2, v -> x.offer(2, 1, 1, v));
        c.due("both", x.offer(6, 100, 1000, 4096), -1);
    }

    @Sentence(in = "Promise 7", says = "WONDERS that a WITNESS saw: which it had.")
    static void witnessAnswersWhichHeHad() {
        SaintsAhead x = new SaintsAhead();
        for (int w = 0; w < 8; w++) {
            c.due("witness at first", x.witness(w, 1023), 0);
            c.due("witness of all", x.witness(w, 0), 1023);
            c.due("witness of none", x.witness(w, 512 + w), 0);
        }
        for (int w = 0; w < 8; w++) {
            c.due("told " + (20 + w), x.told(20 + w), 512 + w);
        }
    }

    @Sentence(in = "Promise 7", says = "UNKNOWN; OUTSIDE: 0 to 1023.")
    static void witnessIsRefused() {
        SaintsAhead x = new SaintsAhead();
        Sentences.bounds(c, "witness", 0, 7, -1, w -> x.witness(w, 1));
        Sentences.bounds(c, "wonders", 0, 1023, -2, v -> x.witness(3, v));
        c.due("both", x.witness(-1, 1024), -1);
    }

    @Sentence(in = "Promise 8", says = "A sign more: how many.")
    static void sayAnswersHowMany() {
        SaintsAhead x = new SaintsAhead();
        for (int i = 1; i <= 60; i++) {
            c.due("say " + i, x.say(33 + i), i);
            c.due("signs " + i, x.told(0), i);
        }
    }

    @Sentence(in = "Promise 8", says = "OUTSIDE; FULL.")
    static void sayIsRefused() {
        SaintsAhead x = new SaintsAhead();
        Sentences.bounds(c, "say", 33, 126, -2, x::say);
        for (int i = 3; i <= 60; i++) {
            x.say('A');
        }
        Sentences.bounds(c, "say where it is full", 33, 126, -2, x::say);
        c.due("full", x.say(33), -4);
        c.due("full", x.say(126), -4);
    }

    @Sentence(in = "Promise 9", says = "Signs go: how many there were.")
    static void wipeAnswersHowManyThereWere() {
        SaintsAhead x = new SaintsAhead();
        c.due("wipe of nothing", x.wipe(), 0);
        x.say('A');
        c.due("wipe of one", x.wipe(), 1);
        c.due("signs", x.told(0), 0);
        c.due("no fault is left", x.fault(), -6);
        c.due("wipe again", x.wipe(), 0);
        for (int i = 0; i < 61; i++) {
            x.say('.');
        }
        c.due("wipe of a full one", x.wipe(), 60);
        c.due("nothing is done", x.told(5), 0);
    }

    @Sentence(in = "Promise 10", says = "THE FAULT; NONE.")
    static void faultOrNone() {
        SaintsAhead x = new SaintsAhead();
        c.due("of nothing", x.fault(), -6);
        c.tell(x, "A");
        c.due("of A", x.fault(), 1);
        c.tell(x, "w");
        c.due("of Aw, though there is no A", x.fault(), -6);
        c.tell(x, ".".repeat(58));
        c.due("of a full pad", x.fault(), -6);
        x.wipe();
        c.tell(x, "!" + ".".repeat(59));
        c.due("of a full pad that begins wrong", x.fault(), 0);
    }

    @Sentence(in = "Promise 11", says = "JUDGED: the ACT (what = 0), why (1), feasts (2); NONE.")
    static void judgeOrNone() {
        SaintsAhead x = new SaintsAhead();
        int[] ofNothing = {-6, -6, 0};
        int[] ofFeasts = {-6, -6, 2};
        for (int what = 0; what < 3; what++) {
            c.due("of nothing " + what, x.judge(what), ofNothing[what]);
        }
        x.child(0, 2, 0, 1);
        c.tell(x, "A0afaAfaA");
        for (int what = 0; what < 3; what++) {
            c.due("of feasts " + what, x.judge(what), ofFeasts[what]);
        }
    }

    @Sentence(in = "Promise 11", says = "OUTSIDE; NO: there is a FAULT; STATE (2): some ACT can not be.")
    static void judgeIsRefused() {
        SaintsAhead x = new SaintsAhead();
        Sentences.bounds(c, "judge", 0, 2, -2, x::judge);
        int[] barred = {0, 1, -3};
        c.tell(x, "Aw");
        for (int what = 0; what < 3; what++) {
            c.due("by what can not be " + what, x.judge(what), barred[what]);
        }
        Sentences.bounds(c, "judge by what can not be", 0, 2, -2, x::judge);
        c.tell(x, "A");
        for (int what = 0; what < 3; what++) {
            c.due("by a fault " + what, x.judge(what), -5);
        }
        Sentences.bounds(c, "judge by a fault", 0, 2, -2, x::judge);
    }

    @Sentence(in = "Promise 12", says = "BEHIND: WONDERS (what = 0), SINS (1), SEEN (2), SAINT (3), FALLEN (4).")
    static void behindEachWhat() {
        SaintsAhead x = new SaintsAhead();
        x.child(0, 3, 2, 4);
        x.child(5, 0, 0, 0);
        int[] first = {3, 2, 4, 0, 0};
        int[] then = {4, 1, 5, 1, 0};
        int[] last = {0, 0, 0, 0, 1};
        for (int what = 0; what < 5; what++) {
            c.due("behind nothing " + what, x.behind(0, what), first[what]);
        }
        c.tell(x, "AwApAeFx");
        for (int what = 0; what < 5; what++) {
            c.due("behind " + what, x.behind(0, what), then[what]);
            c.due("behind of F " + what, x.behind(5, what), last[what]);
        }
    }

    @Sentence(in = "Promise 12", says = "UNKNOWN; OUTSIDE; NO, STATE, as of judge(2).")
    static void behindIsRefused() {
        SaintsAhead x = new SaintsAhead();
        x.child(0, 0, 0, 0);
        x.child(5, 0, 0, 0);
        Sentences.bounds(c, "child", 0, 5, -1, k -> x.behind(k, 0));
        c.due("one who is not there", x.behind(1, 0), -1);
        Sentences.bounds(c, "what", 0, 4, -2, what -> x.behind(0, what));
        c.tell(x, "AwBw");
        for (int what = 0; what < 5; what++) {
            c.due("by what can not be " + what, x.behind(0, what), -3);
        }
        c.due("unknown by what can not be", x.behind(1, 0), -1);
        c.due("outside by what can not be", x.behind(0, 5), -2);
        c.tell(x, "!");
        for (int what = 0; what < 5; what++) {
            c.due("by a fault " + what, x.behind(0, what), -5);
        }
        c.due("unknown by a fault", x.behind(1, 5), -1);
        c.due("outside by a fault", x.behind(0, -1), -2);
    }

    @Sentence(in = "Promise 13", says = "HOLDS, as bits (the PURSE: child = -1).")
    static void holdsBitsOrThePurse() {
        SaintsAhead x = new SaintsAhead();
        for (int p = 0; p < 4; p++) {
            x.purse(p, p == 3 ? 999 : 10 * p);
            c.due("purse of " + p, x.holds(p, -1), p == 3 ? 999 : 10 * p);
        }
        x.child(0, 0, 0, 0);
        x.child(5, 0, 0, 0);
        c.tell(x, "A0dA7dF1c");
        c.due("d of A", x.holds(3, 0), 129);
        c.due("d of F", x.holds(3, 5), 0);
        c.due("c of F", x.holds(2, 5), 2);
        c.due("d's purse", x.holds(3, -1), 979);
        c.due("c's purse", x.holds(2, -1), 10);
        c.due("a's purse", x.holds(0, -1), 0);
    }

    @Sentence(in = "Promise 13", says = "UNKNOWN: both; NO, STATE, likewise.")
    static void holdsIsRefused() {
        SaintsAhead x = new SaintsAhead();
        x.child(0, 0, 0, 0);
        Sentences.bounds(c, "parish", 0, 3, -1, p -> x.holds(p, 0));
        Sentences.bounds(c, "parish, the purse", 0, 3, -1, p -> x.holds(p, -1));
        Sentences.bounds(c, "child", -1, 0, -1, k -> x.holds(0, k));
        c.due("child 5, who is not there", x.holds(0, 5), -1);
        c.due("child 6", x.holds(0, 6), -1);
        c.due("both", x.holds(4, 6), -1);
        c.tell(x, "Ap");
        c.due("by what can not be", x.holds(0, 0), -3);
        c.due("the purse by what can not be", x.holds(0, -1), -3);
        c.due("unknown by what can not be", x.holds(0, 1), -1);
        c.tell(x, "f");
        c.due("by a fault", x.holds(0, 0), -5);
        c.due("the purse by a fault", x.holds(0, -1), -5);
        c.due("unknown by a fault", x.holds(-1, 0), -1);
    }

    @Sentence(in = "Promise 14", says = "FALSE: the ACT (what = 0; NONE), how many (1).")
    static void wrongOrNone() {
        SaintsAhead x = new SaintsAhead();
        c.due("act of nothing", x.wrong(0), -6);
        c.due("how many of nothing", x.wrong(1), 0);
        x.child(0, 1, 0, 1);
        c.tell(x, "A0afaAAwfaA");
        c.due("act", x.wrong(0), 1);
        c.due("how many", x.wrong(1), 1);
        x.child(0, 2, 0, 1);
        c.due("act of true feasts", x.wrong(0), -6);
        c.due("how many of true feasts", x.wrong(1), 0);
    }

    @Sentence(in = "Promise 14", says = "OUTSIDE; NO, STATE, likewise.")
    static void wrongIsRefused() {
        SaintsAhead x = new SaintsAhead();
        Sentences.bounds(c, "wrong", 0, 1, -2, x::wrong);
        c.tell(x, ".Aw");
        c.due("act by what can not be", x.wrong(0), -3);
        c.due("how many by what can not be", x.wrong(1), -3);
        Sentences.bounds(c, "wrong by what can not be", 0, 1, -2, x::wrong);
        c.tell(x, "A");
        c.due("act by a fault", x.wrong(0), -5);
        c.due("how many by a fault", x.wrong(1), -5);
        Sentences.bounds(c, "wrong by a fault", 0, 1, -2, x::wrong);
    }

    @Sentence(in = "Promise 15", says = "YEARS are DONE (the PAD is empty then): ACTS.")
    static void doneAnswersActs() {
        SaintsAhead x = new SaintsAhead();
        c.due("of nothing", x.done(), 0);
        x.child(0, 0, 0, 0);
        c.live(x, ".", 1);
        c.due("the pad is empty", x.told(0), 0);
        c.due("no fault", x.fault(), -6);
        c.live(x, "A0a" + "faA".repeat(19), 20);
        c.due("the pad is empty again", x.told(0), 0);
        c.live(x, "AwAx", 2);
        c.due("again nothing", x.done(), 0);
        c.due("nothing is done twice", x.told(50), 1);
    }

    @Sentence(in = "Promise 15", says = "NO, STATE, likewise.")
    static void doneIsRefused() {
        SaintsAhead x = new SaintsAhead();
        x.child(0, 0, 0, 0);
        c.tell(x, "Aw.Bw");
        c.due("by what can not be", x.done(), -3);
        c.due("the signs stay", x.told(0), 5);
        c.due("no wonder", x.told(50), 0);
        c.due("no year", x.told(5), 0);
        c.tell(x, "A");
        c.due("by a fault", x.done(), -5);
        c.due("the signs stay by a fault", x.told(0), 6);
        c.due("no wonder by a fault", x.told(50), 0);
        x.child(1, 0, 0, 0);
        c.tell(x, "e");
        c.due("it can be now", x.done(), 4);
        c.due("a wonder", x.told(50), 1);
    }

    @Sentence(in = "Promise 16", says = "SAINTS, as bits.")
    static void saintsAreBits() {
        SaintsAhead x = new SaintsAhead();
        c.due("none", x.saints(), 0);
        for (int k = 0; k < 6; k++) {
            x.child(k, 2, 1, 1);
            c.due("with " + k, x.saints(), 1 << k);
            x.child(k, 1, 1, 1);
            c.due("without " + k, x.saints(), 0);
        }
    }

    @Sentence(in = "Promise 17", says = "LACKS. UNKNOWN; STATE.")
    static void lacksIsRefused() {
        SaintsAhead x = new SaintsAhead();
        for (int k = -1; k < 7; k++) {
            c.due("at first " + k, x.lacks(k), -1);
        }
        x.child(0, 0, 0, 0);
        x.child(5, 0, 2, 0);
        Sentences.bounds(c, "lacks", 0, 5, -1, x::lacks);
        c.due("A lacks", x.lacks(0), 3);
        c.due("F lacks", x.lacks(5), 4);
        c.live(x, "Fx", 1);
        c.due("fallen", x.lacks(5), -3);
        c.due("not fallen", x.lacks(0), 3);
        x.leave(5);
        c.due("gone", x.lacks(5), -1);
    }
}
