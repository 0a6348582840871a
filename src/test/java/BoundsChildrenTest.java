/** 'Terms', part 1: children, parishes, the law, the pad, the fault, why an act can not be. */
public final class BoundsChildrenTest {
    private static final Checks c = new Checks();
    private static final String CHILDREN = "ABCDEF", PARISHES = "abcd", DEEDS = "wspex", DIGITS = "01234567";
    private static final String[] ENDS_OF_ACTS = {"w", "s", "p", "e", "x", "0a", "7d"};

    public static void main(String[] args) throws IllegalAccessException {
        Sentences.hold(BoundsChildrenTest.class, c);
    }

    // ---- children, parishes, the law

    @Sentence(in = "Terms", says = "CHILDREN 0 to 5 (A to F)")
    static void childrenAre0To5() {
        SaintsAhead x = new SaintsAhead();
        Sentences.bounds(c, "child", 0, 5, -1, k -> x.child(k, 0, 0, 0));
        c.due("children", x.told(1), 33);
        Sentences.bounds(c, "offer", 0, 5, -1, k -> x.offer(k, 0, 0, 0));
        Sentences.bounds(c, "lacks", 0, 5, -1, x::lacks);
        Sentences.bounds(c, "behind", 0, 5, -1, k -> x.behind(k, 0));
        Sentences.bounds(c, "rivals", 0, 5, -1, k -> x.rivals(k, 0, 0));
        Sentences.bounds(c, "share", 0, 5, -1, k -> x.share(k, 0, 0));
        Sentences.bounds(c, "odds", 0, 5, -1, k -> (int) (x.odds(k, 0, 0, 0, 0, 0) - SaintsAhead.GONE));
        Sentences.bounds(c, "leave", 0, 5, -1, x::leave);
        c.due("none left", x.told(1), 0);
    }

    @Sentence(in = "Terms", says = "CHILDREN 0 to 5 (A to F)")
    static void childrenAreAToF() {
        SaintsAhead x = new SaintsAhead();
        for (int k = 0; k < 6; k++) {
            x.child(k, 0, 0, 0);
        }
        c.retell(x, "@w");
        c.due("fault of @w", x.fault(), 0);
        c.retell(x, "Gw");
        c.due("fault of Gw", x.fault(), 0);
        c.live(x, "AwFwFw", 3);
        c.due("A is 0", x.told(50), 1);
        c.due("F is 5", x.told(300), 2);
    }

    @Sentence(in = "Terms", says = "some of whom there are (none at first)")
    static void noChildIsThereAtFirst() {
        SaintsAhead x = new SaintsAhead();
        c.due("children", x.told(1), 0);
        for (int k = 0; k < 6; k++) {
            c.due("told of " + k, x.told(50 * (1 + k)), -2);
            c.due("lacks " + k, x.lacks(k), -1);
            c.due("leave " + k, x.leave(k), -1);
        }
    }

    @Sentence(in = "Terms", says = "WONDERS, SINS, SEEN (how many witnesses; 0 to 99 each; 0 at first)")
    static void wondersSinsSeenAre0To99() {
        SaintsAhead x = new SaintsAhead();
        Sentences.bounds(c, "wonders", 0, 99, -2, v -> x.child(0, v, 0, 0));
        c.due("wonders of 99", x.told(50), 99);
        Sentences.bounds(c, "sins", 0, 99, -2, v -> x.child(0, 0, v, 0));
        c.due("sins of 99", x.told(51), 99);
        Sentences.bounds(c, "seen", 0, 99, -2, v -> x.child(0, 0, 0, v));
        c.due("seen of 99", x.told(52), 99);
        c.due("child of nothing", x.child(0, 0, 0, 0), 1);
        for (int what = 50; what < 53; what++) {
            c.due("told " + what, x.told(what), 0);
        }
    }

    @Sentence(in = "Terms", says = "FALLEN or not")
    static void aChildIsNotFallenAtFirst() {
        SaintsAhead x = new SaintsAhead();
        for (int k = 0; k < 6; k++) {
            x.child(k, 0, 0, 0);
            c.due("fallen " + k, x.told(50 * (1 + k) + 3), 0);
        }
        c.live(x, "AxFx", 2);
        for (int k = 0; k < 6; k++) {
            c.due("fallen then " + k, x.told(50 * (1 + k) + 3), k == 0 || k == 5 ? 1 : 0);
        }
    }

    @Sentence(in = "Terms", says = "PARTS 0 to 7, each held by a PARISH, or by none (at first).")
    static void partsAre0To7AndNobodysAtFirst() {
        SaintsAhead x = new SaintsAhead();
        x.child(0, 0, 0, 0);
        c.due("below part 0", x.told(59), -2);
        c.due("above part 7", x.told(68), -2);
        for (int part = 0; part < 8; part++) {
            c.due("part " + part, x.told(60 + part), -6);
        }
        c.retell(x, "A/a");
        c.due("fault of A/a", x.fault(), 1);
        c.retell(x, "A8a");
        c.due("fault of A8a", x.fault(), 1);
        c.live(x, "A0aA7d", 2);
        c.due("part 0 is a's", x.told(60), 0);
        c.due("part 7 is d's", x.told(67), 3);
        c.due("part 1 is nobody's", x.told(61), -6);
    }

    @Sentence(in = "Terms", says = "PARISHES 0 to 3 (a to d)")
    static void parishesAre0To3() {
        SaintsAhead x = new SaintsAhead();
        x.child(0, 0, 0, 0);
        Sentences.bounds(c, "purse", 0, 3, -1, p -> x.purse(p, 100));
        Sentences.bounds(c, "holds", 0, 3, -1, p -> x.holds(p, -1));
        Sentences.bounds(c, "share", 0, 3, -1, p -> x.share(0, 1, p));
        c.due("below parish 0", x.told(9), -2);
        c.due("above parish 3", x.told(14), -2);
        for (String text : new String[] {"A0`", "A0e", "f`", "fe"}) {
            c.retell(x, text);
            c.due("fault of " + text, x.fault(), text.length() - 1);
        }
        c.live(x, "A0aA1d", 2);
        c.due("a is 0", x.told(10), 90);
        c.due("d is 3", x.told(13), 90);
    }

    @Sentence(in = "Terms", says = "a PURSE (0 to 999; 100 at first).")
    static void pursesAre0To999And100AtFirst() {
        SaintsAhead x = new SaintsAhead();
        for (int p = 0; p < 4; p++) {
            int parish = p;
            c.due("purse of " + p + " at first", x.told(10 + p), 100);
            Sentences.bounds(c, "purse of " + p, 0, 999, -2, v -> x.purse(parish, v));
            c.due("purse of " + p + " then", x.purse(p, 0), 999);
            c.due("purse of " + p + " is empty", x.told(10 + p), 0);
        }
    }

    @Sentence(in = "Terms", says = "The LAW: a CHILD is a SAINT, if it is not FALLEN")
    static void aFallenChildIsNoSaint() {
        SaintsAhead x = new SaintsAhead();
        x.child(0, 99, 0, 99);
        c.due("a saint", x.saints(), 1);
        c.live(x, "Ax", 1);
        c.due("no saint", x.saints(), 0);
        for (int which = 0; which < 3; which++) {
            x.law(which, which == 1 ? 9 : 0);
        }
        c.due("nor by the mildest law", x.saints(), 0);
    }

    private static void saintOrNot(SaintsAhead x, int wonders, int sins, int seen, int saint) {
        x.child(0, wonders, sins, seen);
        c.due("a saint by " + wonders + ", " + sins + ", " + seen, x.saints(), saint);
    }

    @Sentence(in = "Terms", says = "has NEED WONDERS at least (0 to 9; 2 at first)")
    static void needWondersAtLeast() {
        SaintsAhead x = new SaintsAhead();
        c.due("need at first", x.told(2), 2);
        saintOrNot(x, 1, 0, 1, 0);
        saintOrNot(x, 2, 0, 1, 1);
        saintOrNot(x, 3, 0, 1, 1);
        Sentences.bounds(c, "need", 0, 9, -2, v -> x.law(0, v));
        saintOrNot(x, 8, 0, 1, 0);
        saintOrNot(x, 9, 0, 1, 1);
        c.due("need 0", x.law(0, 0), 9);
        saintOrNot(x, 0, 0, 1, 1);
    }

    @Sentence(in = "Terms", says = "PASS SINS at most (0 to 9; 1 at first)")
    static void passSinsAtMost() {
        SaintsAhead x = new SaintsAhead();
        c.due("pass at first", x.told(3), 1);
        saintOrNot(x, 2, 0, 1, 1);
        saintOrNot(x, 2, 1, 1, 1);
        saintOrNot(x, 2, 2, 1, 0);
        Sentences.bounds(c, "pass", 0, 9, -2, v -> x.law(1, v));
        saintOrNot(x, 2, 9, 1, 1);
        saintOrNot(x, 2, 10, 1, 0);
        c.due("pass 0", x.law(1, 0), 9);
        saintOrNot(x, 2, 0, 1, 1);
        saintOrNot(x, 2, 1, 1, 0);
    }

    @Sentence(in = "Terms", says = "and SEEN is EYES at least (0 to 9; 1 at first).")
    static void seenIsEyesAtLeast() {
        SaintsAhead x = new SaintsAhead();
        c.due("eyes at first", x.told(4), 1);
        saintOrNot(x, 2, 0, 0, 0);
        saintOrNot(x, 2, 0, 1, 1);
        saintOrNot(x, 2, 0, 2, 1);
        Sentences.bounds(c, "eyes", 0, 9, -2, v -> x.law(2, v));
        saintOrNot(x, 2, 0, 8, 0);
        saintOrNot(x, 2, 0, 9, 1);
        c.due("eyes 0", x.law(2, 0), 9);
        saintOrNot(x, 2, 0, 0, 1);
    }

    // ---- the pad

    @Sentence(in = "Terms", says = "YEARS are a text on a PAD of up to 60 signs")
    static void thePadHas60Signs() {
        SaintsAhead x = new SaintsAhead();
        for (int i = 1; i <= 60; i++) {
            c.due("say " + i, x.say('.'), i);
        }
        c.due("say the 61st", x.say('.'), -4);
        c.due("signs", x.told(0), 60);
        c.due("acts", x.done(), 60);
        c.due("say behind done", x.say('.'), 1);
        for (int i = 2; i <= 60; i++) {
            c.due("say again " + i, x.say('.'), i);
        }
        c.due("say the 61st again", x.say('.'), -4);
        c.due("wipe", x.wipe(), 60);
        c.due("say behind wipe", x.say('.'), 1);
    }

    @Sentence(in = "Terms", says = "(codes 33 to 126)")
    static void signsAreCodes33To126() {
        SaintsAhead x = new SaintsAhead();
        Sentences.bounds(c, "say", 33, 126, -2, x::say);
        c.due("signs", x.told(0), 2);
        for (int sign : new int[] {0, 10, 32, 127, 128, 233, 256 + 'A', 65536 + 'A', 'A' - 65536}) {
            c.due("say " + sign, x.say(sign), -2);
        }
        c.due("signs still", x.told(0), 2);
        x.wipe();
        int many = 0;
        for (int sign = 33; sign <= 126; sign++) {
            if (many == 60) {
                many -= x.wipe();
            }
            many++;
            c.due("say " + sign, x.say(sign), many);
        }
    }

    /** Each of the 94 signs behind a beginning: it can stand there, and ends an ACT, or it can not. */
    private static void signsBehind(String begun, String ending, String goingOn) {
        SaintsAhead x = new SaintsAhead();
        int place = begun.length();
        for (char sign = 33; sign <= 126; sign++) {
            x.wipe();
            for (char before : begun.toCharArray()) {
                x.say(before);
            }
            x.say(sign);
            int due = ending.indexOf(sign) >= 0 ? -6 : goingOn.indexOf(sign) >= 0 ? place + 1 : place;
            c.due("fault of " + begun + sign, x.fault(), due);
        }
    }

    @Sentence(in = "Terms", says = "of ACTS: a CHILD's letter and:")
    static void anActBeginsByAChildOrFOrADot() {
        signsBehind("", ".", CHILDREN + "f");
    }

    @Sentence(in = "Terms", says = "w (a WONDER more), s (a SIN more), p (a SIN less), e (SEEN is one more), x (it FALLS")
    static void behindAChildIsADeedOrADigit() {
        signsBehind("A", DEEDS, DIGITS);
        signsBehind("F", DEEDS, DIGITS);
    }

    @Sentence(in = "Terms", says = "or a digit 0 to 7 and a PARISH's letter (that PART is let to it for 10)")
    static void behindADigitIsAParish() {
        signsBehind("A0", PARISHES, "");
        signsBehind("F7", PARISHES, "");
    }

    @Sentence(in = "Terms", says = "f and a PARISH's letter and a CHILD's (it holds that one's feast)")
    static void behindFIsAParishAndAChild() {
        signsBehind("f", "", PARISHES);
        signsBehind("fa", CHILDREN, "");
        signsBehind("fd", CHILDREN, "");
    }

    @Sentence(in = "Terms", says = "or . (a year).")
    static void behindAYearAnActBegins() {
        signsBehind(".", ".", CHILDREN + "f");
        SaintsAhead x = new SaintsAhead();
        c.due("year at first", x.told(5), 0);
        c.live(x, ".", 1);
        c.due("a year", x.told(5), 1);
    }

    @Sentence(in = "Terms", says = "w (a WONDER more), s (a SIN more), p (a SIN less), e (SEEN is one more), x (it FALLS")
    static void eachDeedDoesItsOwn() {
        int[][] then = {{1, 1, 0, 0}, {0, 2, 0, 0}, {0, 0, 0, 0}, {0, 1, 1, 0}, {0, 1, 0, 1}};
        for (int i = 0; i < 5; i++) {
            SaintsAhead x = new SaintsAhead();
            x.child(3, 0, 1, 0);
            c.live(x, "D" + DEEDS.charAt(i), 1);
            for (int what = 0; what < 4; what++) {
                c.due("told " + (200 + what) + " behind " + DEEDS.charAt(i), x.told(200 + what), then[i][what]);
            }
        }
    }

    @Sentence(in = "Terms", says = "(it FALLS: all its PARTS are given back, each PARISH gets 10 for each)")
    static void whoFallsGivesAllPartsBack() {
        SaintsAhead x = new SaintsAhead();
        x.child(0, 0, 0, 0);
        x.child(1, 0, 0, 0);
        c.live(x, "A0aA1aA2aA3aA4aA5bA6bA7dB0a", 9);
        int[] paid = {40, 80, 100, 90};
        int[] then = {90, 100, 100, 100};
        for (int p = 0; p < 4; p++) {
            c.due("purse of " + p + " before", x.told(10 + p), paid[p]);
        }
        c.live(x, "Ax", 1);
        for (int p = 0; p < 4; p++) {
            c.due("purse of " + p + " behind", x.told(10 + p), then[p]);
        }
        for (int part = 0; part < 8; part++) {
            c.due("part " + part, x.told(60 + part), -6);
        }
        c.due("another's part stays", x.told(110), 0);
    }

    @Sentence(in = "Terms", says = "(it FALLS: all its PARTS are given back, each PARISH gets 10 for each)")
    static void whoFallsWithoutPartsGivesNothingBack() {
        SaintsAhead x = new SaintsAhead();
        x.child(0, 0, 0, 0);
        x.purse(0, 0);
        x.purse(3, 999);
        c.live(x, "Ax", 1);
        int[] then = {0, 100, 100, 999};
        for (int p = 0; p < 4; p++) {
            c.due("purse of " + p, x.told(10 + p), then[p]);
        }
    }

    @Sentence(in = "Terms", says = "or a digit 0 to 7 and a PARISH's letter (that PART is let to it for 10)")
    static void aPartIsLetForTheLast10() {
        SaintsAhead x = new SaintsAhead();
        x.child(0, 0, 0, 0);
        x.purse(2, 10);
        c.live(x, "A0c", 1);
        c.due("the purse is empty", x.told(12), 0);
        c.due("others are not", x.told(11), 100);
        c.due("c holds it", x.told(60), 2);
    }

    // ---- the fault

    private static String dots(int many) {
        return ".".repeat(many);
    }

    @Sentence(in = "Terms", says = "THE FAULT: the place (from 0 on) of the first sign that can not stand there")
    static void theFaultIsThePlaceOfTheFirstBadSign() {
        String[] texts = {"!", "A!", "A0!", "f!", "fa!", ".!", "Aw!", "!!", "A!w!", "A0e.f!", dots(59) + "!", dots(58) + "A!"};
        int[] places = {0, 1, 2, 1, 2, 1, 2, 0, 1, 2, 59, 59};
        for (int i = 0; i < texts.length; i++) {
            SaintsAhead x = new SaintsAhead();
            c.tell(x, texts[i]);
            c.due("fault of " + texts[i], x.fault(), places[i]);
        }
    }

    @Sentence(in = "Terms", says = "or the number of signs, if more must come.")
    static void theFaultIsTheNumberOfSignsIfMoreMustCome() {
        String[] texts = {"A", "A0", "f", "fa", ".A", "AwF7", "faAf", dots(59) + "A", dots(58) + "A0", dots(58) + "fa",
            "!A"};
        int[] places = {1, 2, 1, 2, 2, 4, 4, 60, 60, 60, 0};
        for (int i = 0; i < texts.length; i++) {
            SaintsAhead x = new SaintsAhead();
            c.tell(x, texts[i]);
            c.due("fault of " + texts[i], x.fault(), places[i]);
            c.due("judge of " + texts[i], x.judge(0), -5);
        }
    }

    // ---- why an act can not be

    private static void barred(SaintsAhead x, String text, int act, int why) {
        c.retell(x, text);
        c.due("act of " + text, x.judge(0), act);
        c.due("why of " + text, x.judge(1), why);
    }

    private static void canBe(SaintsAhead x, String text) {
        barred(x, text, -6, -6);
    }

    @Sentence(in = "Terms", says = "1 there is no such CHILD")
    static void reason1NoSuchChild() {
        for (char child : CHILDREN.toCharArray()) {
            SaintsAhead x = new SaintsAhead();
            for (String end : ENDS_OF_ACTS) {
                barred(x, child + end, 0, 1);
            }
            barred(x, "fa" + child, 0, 1);
            x.child(child - 'A', 0, 0, 0);
            canBe(x, child + "w");
            x.leave(child - 'A');
            barred(x, child + "w", 0, 1);
        }
    }

    @Sentence(in = "Terms", says = "2 it is FALLEN")
    static void reason2Fallen() {
        SaintsAhead x = new SaintsAhead();
        x.child(0, 0, 1, 0);
        x.child(1, 0, 0, 0);
        for (String end : ENDS_OF_ACTS) {
            barred(x, "AxA" + end, 1, 2);
        }
        barred(x, "A0aAxfaA", 2, 2);
        canBe(x, "AxBw");
        c.live(x, "Ax", 1);
        barred(x, "Aw", 0, 2);
        barred(x, "Ax", 0, 2);
        x.child(0, 0, 0, 0);
        canBe(x, "Aw");
    }

    @Sentence(in = "Terms", says = "3 there is no SIN (p), 99 are (w, s, e)")
    static void reason3NoSin() {
        SaintsAhead x = new SaintsAhead();
        x.child(0, 99, 0, 99);
        barred(x, "Ap", 0, 3);
        barred(x, "AsApAp", 2, 3);
        x.child(0, 0, 1, 0);
        canBe(x, "Ap");
        barred(x, "ApAp", 1, 3);
        x.child(0, 0, 99, 0);
        canBe(x, "ApAp");
    }

    @Sentence(in = "Terms", says = "3 there is no SIN (p), 99 are (w, s, e)")
    static void reason3NinetyNine() {
        for (int i = 0; i < 3; i++) {
            SaintsAhead x = new SaintsAhead();
            String deed = "A" + "wse".charAt(i);
            String others = "AwAsAe".replace(deed, "");
            x.child(0, i == 0 ? 98 : 97, i == 1 ? 98 : 97, i == 2 ? 98 : 97);
            canBe(x, deed);
            barred(x, deed + deed, 1, 3);
            canBe(x, deed + others);
            canBe(x, others + others);
            x.child(0, i == 0 ? 99 : 0, i == 1 ? 99 : 0, i == 2 ? 99 : 0);
            barred(x, deed, 0, 3);
            canBe(x, others);
        }
    }

    @Sentence(in = "Terms", says = "4 the PART is held already")
    static void reason4HeldAlready() {
        SaintsAhead x = new SaintsAhead();
        x.child(0, 0, 0, 0);
        x.child(1, 0, 0, 0);
        for (char part : new char[] {'0', '7'}) {
            barred(x, "A" + part + "aA" + part + "a", 1, 4);
            barred(x, "A" + part + "aA" + part + "d", 1, 4);
            canBe(x, "A" + part + "aB" + part + "a");
        }
        canBe(x, "A0aA1aA6aA7a");
        c.live(x, "A0a", 1);
        barred(x, "A0b", 0, 4);
        x.child(0, 0, 0, 0);
        canBe(x, "A0b");
    }

    @Sentence(in = "Terms", says = "5 the PURSE is below 10")
    static void reason5PurseBelow10() {
        SaintsAhead x = new SaintsAhead();
        x.child(0, 0, 0, 0);
        for (int p = 0; p < 4; p++) {
            x.purse(p, 9);
            barred(x, "A0" + PARISHES.charAt(p), 0, 5);
            x.purse(p, 0);
            barred(x, "A0" + PARISHES.charAt(p), 0, 5);
            x.purse(p, 10);
            canBe(x, "A0" + PARISHES.charAt(p));
            barred(x, "A0" + PARISHES.charAt(p) + "A1" + PARISHES.charAt(p), 1, 5);
        }
        canBe(x, "A0aA1bA2cA3d");
    }

    @Sentence(in = "Terms", says = "6 the PARISH holds no PART of it (f)")
    static void reason6HoldsNoPart() {
        SaintsAhead x = new SaintsAhead();
        x.child(0, 0, 0, 0);
        x.child(1, 0, 0, 0);
        barred(x, "faA", 0, 6);
        barred(x, "A0afbA", 1, 6);
        barred(x, "A0afaB", 1, 6);
        barred(x, "faAA0a", 0, 6);
        canBe(x, "A0afaA");
        canBe(x, "A7afaA");
        canBe(x, "A0aA1bfbAfaA");
        c.live(x, "A0a", 1);
        canBe(x, "faA");
        x.child(0, 0, 0, 0);
        barred(x, "faA", 0, 6);
    }

    @Sentence(in = "Terms", says = "7 it is year 99 (.).")
    static void reason7Year99() {
        SaintsAhead x = new SaintsAhead();
        x.child(0, 0, 0, 0);
        c.live(x, dots(60), 60);
        barred(x, dots(40), 39, 7);
        c.live(x, dots(38), 38);
        c.due("year 98", x.told(5), 98);
        barred(x, "..", 1, 7);
        c.live(x, ".", 1);
        c.due("year 99", x.told(5), 99);
        barred(x, ".", 0, 7);
        barred(x, "Aw.", 1, 7);
        c.live(x, "AwA0afaA", 3);
        c.due("year 99 still", x.told(5), 99);
    }

    @Sentence(in = "Terms", says = "An ACT can not be for the least of these reasons")
    static void theLeastReasonIsTold() {
        SaintsAhead x = new SaintsAhead();
        x.child(0, 99, 99, 99);
        x.child(1, 0, 0, 0);
        for (int p = 0; p < 4; p++) {
            x.purse(p, 10);
        }
        // Held already, and the purse is empty.
        barred(x, "A0aA0a", 1, 4);
        barred(x, "A0aA1bA0b", 2, 4);
        c.live(x, "AxBx", 2);
        for (int p = 0; p < 4; p++) {
            x.purse(p, 0);
        }
        // Fallen, and 99 are, no sin is, the purse is empty, no part is held.
        for (String end : ENDS_OF_ACTS) {
            barred(x, "A" + end, 0, 2);
            barred(x, "B" + end, 0, 2);
        }
        barred(x, "faA", 0, 2);
        x.leave(0);
        x.leave(1);
        // Not there, though it was fallen.
        for (String end : ENDS_OF_ACTS) {
            barred(x, "A" + end, 0, 1);
            barred(x, "B" + end, 0, 1);
        }
        barred(x, "faA", 0, 1);
    }

    @Sentence(in = "Terms", says = "PURSES are 999 at most, what is above is lost.")
    static void pursesAre999AtMost() {
        SaintsAhead x = new SaintsAhead();
        x.child(0, 0, 0, 0);
        c.live(x, "A0aA1bA2cA3dA4d", 5);
        x.purse(0, 989);
        x.purse(1, 990);
        x.purse(2, 999);
        x.purse(3, 980);
        c.tell(x, "Ax");
        int[] then = {999, 999, 999, 999};
        for (int p = 0; p < 4; p++) {
            c.due("purse behind of " + p, x.holds(p, -1), then[p]);
        }
        x.purse(0, 988);
        x.purse(3, 979);
        c.due("a is below", x.holds(0, -1), 998);
        c.due("d just there", x.holds(3, -1), 999);
        x.purse(3, 978);
        c.due("d is below", x.holds(3, -1), 998);
        c.due("done", x.done(), 1);
        c.due("purse of b then", x.told(11), 999);
        x.child(0, 0, 0, 0);
        c.live(x, "A0b", 1);
        c.due("what was lost stays lost", x.told(11), 989);
    }
}
