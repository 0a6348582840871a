import java.util.function.IntToLongFunction;

/** The sections 'Promise 18' to 'Promise 31': each sentence of theirs at its edges, each refusal that they name. */
public final class BoundsPromises2Test {
    private static final long UNKNOWN = -1000000000000000001L, OUTSIDE = -1000000000000000002L;
    private static final Checks c = new Checks();

    public static void main(String[] args) throws IllegalAccessException {
        Sentences.hold(BoundsPromises2Test.class, c);
    }

    private static void oddsBounds(String number, int low, int high, int refusal, IntToLongFunction of) {
        Sentences.bounds(c, number, low, high, refusal, v -> {
            long got = of.applyAsLong(v);
            return got < 0 ? (int) (got - SaintsAhead.GONE) : 1;
        });
    }

    @Sentence(in = "Promise 18", says = "ODDS.")
    static void oddsFromNeverToSurely() {
        SaintsAhead x = new SaintsAhead();
        x.child(5, 1, 1, 1);
        c.due("never, upper", x.odds(5, 8, 0, 0, 0, 0), 0);
        c.due("never, lower", x.odds(5, 8, 0, 0, 0, 1), 1);
        c.due("surely, upper", x.odds(5, 8, 10, 0, 0, 0), 1);
        c.due("surely, lower", x.odds(5, 8, 10, 0, 0, 1), 1);
        // Not one wonder in eight years by a tenth: 9^8 of 10^8.
        c.due("else, upper", x.odds(5, 8, 1, 0, 0, 0), 100000000 - 43046721);
        c.due("else, lower", x.odds(5, 8, 1, 0, 0, 1), 100000000);
    }

    @Sentence(in = "Promise 18", says = "UNKNOWN; OUTSIDE: m, t, u, both together, g, part.")
    static void oddsIsRefused() {
        SaintsAhead x = new SaintsAhead();
        c.due("none there", x.odds(0, 0, 0, 0, 0, 0), UNKNOWN);
        x.child(0, 2, 0, 1);
        x.child(5, 2, 0, 1);
        oddsBounds("child", 0, 5, -1, k -> x.odds(k, 0, 0, 0, 0, 0));
        c.due("child 1, who is not there", x.odds(1, 0, 0, 0, 0, 0), UNKNOWN);
        oddsBounds("m", 0, 8, -2, m -> x.odds(0, m, 0, 0, 0, 0));
        oddsBounds("t", 0, 10, -2, t -> x.odds(0, 1, t, 0, 0, 0));
        oddsBounds("u", 0, 10, -2, u -> x.odds(0, 1, 0, u, 0, 0));
        oddsBounds("both together", 0, 5, -2, u -> x.odds(0, 1, 5, u, 0, 0));
        oddsBounds("g", 0, 3, -2, g -> x.odds(0, 3, 1, 1, g, 0));
        oddsBounds("part", 0, 1, -2, part -> x.odds(0, 1, 1, 1, 1, part));
        c.due("t below by u above", x.odds(0, 1, -1, 11, 0, 0), OUTSIDE);
        c.due("both wrap around", x.odds(0, 1, Integer.MIN_VALUE, Integer.MIN_VALUE, 0, 0), OUTSIDE);
    }

    @Sentence(in = "Promise 19", says = "BACK: how much (what = 0), who (1).")
    static void backOfNothingAndOfAll() {
        SaintsAhead x = new SaintsAhead();
        c.due("how much of none", x.back(0, 0), 0);
        c.due("who of none", x.back(999, 1), 0);
        for (int k = 0; k < 6; k++) {
            x.child(k, 0, 0, 0);
        }
        c.due("how much of all", x.back(60, 0), 60);
        c.due("who of all", x.back(60, 1), 63);
        c.due("how much, one coin short", x.back(59, 0), 50);
        c.due("who, one coin short", x.back(59, 1), 31);
    }

    @Sentence(in = "Promise 19", says = "OUTSIDE.")
    static void backIsRefused() {
        SaintsAhead x = new SaintsAhead();
        x.child(0, 0, 0, 0);
        Sentences.bounds(c, "v", 0, 999, -2, v -> x.back(v, 0));
        Sentences.bounds(c, "v, who", 0, 999, -2, v -> x.back(v, 1));
        Sentences.bounds(c, "what", 0, 1, -2, what -> x.back(10, what));
    }

    @Sentence(in = "Promise 20", says = "WITNESSES: how many (what = 0), who (1); NONE.")
    static void fewestOrNone() {
        SaintsAhead x = new SaintsAhead();
        c.due("how many of nothing", x.fewest(0, 0), 0);
        c.due("who of nothing", x.fewest(0, 1), 0);
        c.due("how many of what none saw", x.fewest(512, 0), -6);
        c.due("who of what none saw", x.fewest(512, 1), -6);
        x.witness(0, 1023);
        x.witness(7, 1023);
        c.due("how many of all", x.fewest(1023, 0), 1);
        c.due("who of all", x.fewest(1023, 1), 1);
    }

    @Sentence(in = "Promise 20", says = "OUTSIDE: the set 0 to 1023, what.")
    static void fewestIsRefused() {
        SaintsAhead x = new SaintsAhead();
        Sentences.bounds(c, "set", 0, 1023, -2, set -> x.fewest(set, 0));
        Sentences.bounds(c, "set, who", 0, 1023, -2, set -> x.fewest(set, 1));
        Sentences.bounds(c, "what", 0, 1, -2, what -> x.fewest(1, what));
        Sentences.bounds(c, "what of nothing", 0, 1, -2, what -> x.fewest(0, what));
    }

    @Sentence(in = "Promise 21", says = "DAYS: how many (child = -1), the day; NONE.")
    static void dayOrNone() {
        SaintsAhead x = new SaintsAhead();
        c.due("how many of none", x.day(-1), 0);
        x.child(0, 2, 0, 1);
        x.child(5, 2, 0, 1);
        c.due("how many", x.day(-1), 2);
        c.due("the least's", x.day(0), 0);
        c.due("the last's", x.day(5), 1);
        x.offer(0, 0, 0, 2048);
        x.offer(5, 0, 0, 2048);
        c.due("how many of one day", x.day(-1), 1);
        c.due("the least's of one day", x.day(0), 11);
        c.due("the last's of one day", x.day(5), -6);
    }

    @Sentence(in = "Promise 21", says = "UNKNOWN: no SAINT.")
    static void dayIsRefused() {
        SaintsAhead x = new SaintsAhead();
        for (int k = 0; k < 6; k++) {
            c.due("none there " + k, x.day(k), -1);
        }
        x.child(0, 2, 0, 1);
        x.child(1, 1, 0, 1);
        x.child(2, 2, 2, 1);
        x.child(3, 2, 0, 0);
        x.child(4, 2, 0, 1);
        c.live(x, "Ex", 1);
        Sentences.bounds(c, "day", -1, 0, -1, x::day);
        for (int k = 1; k <= 6; k++) {
            c.due("no saint " + k, x.day(k), -1);
        }
        c.due("day(32)", x.day(32), -1);
        c.due("day(-32)", x.day(-32), -1);
    }

    @Sentence(in = "Promise 22", says = "RIVALS: whether (what = 0), moves (1).")
    static void rivalsWhetherAndMoves() {
        SaintsAhead x = new SaintsAhead();
        x.child(5, 2, 1, 1);
        c.due("whether, no turn", x.rivals(5, 0, 0), 1);
        c.due("moves, no turn", x.rivals(5, 0, 1), 0);
        c.due("whether, one turn", x.rivals(5, 1, 0), 1);
        c.due("moves, one turn", x.rivals(5, 1, 1), 2);
        c.due("whether, twelve turns", x.rivals(5, 12, 0), 0);
        c.due("moves, twelve turns", x.rivals(5, 12, 1), 0);
    }

    @Sentence(in = "Promise 22", says = "UNKNOWN; OUTSIDE; STATE: it is FALLEN.")
    static void rivalsIsRefused() {
        SaintsAhead x = new SaintsAhead();
        x.child(0, 2, 0, 1);
        x.child(5, 2, 0, 1);
        Sentences.bounds(c, "child", 0, 5, -1, k -> x.rivals(k, 1, 0));
        c.due("child 1, who is not there", x.rivals(1, 1, 0), -1);
        Sentences.bounds(c, "n", 0, 12, -2, n -> x.rivals(0, n, 0));
        Sentences.bounds(c, "what", 0, 1, -2, what -> x.rivals(0, 1, what));
        Sentences.bounds(c, "what, no turn", 0, 1, -2, what -> x.rivals(0, 0, what));
        c.live(x, "Ax", 1);
        for (int n = 0; n <= 12; n += 6) {
            c.due("fallen, whether by " + n, x.rivals(0, n, 0), -3);
            c.due("fallen, moves by " + n, x.rivals(0, n, 1), -3);
        }
        c.due("another one is not", x.rivals(5, 0, 0), 1);
        c.due("fallen, outside", x.rivals(0, 13, 0), -2);
    }

    @Sentence(in = "Promise 23", says = "SHARE (0: none holds a PART).")
    static void shareWhereNoneHoldsAPart() {
        SaintsAhead x = new SaintsAhead();
        x.child(0, 0, 0, 0);
        x.child(1, 0, 0, 0);
        c.live(x, "B0a", 1);
        for (int p = 0; p < 4; p++) {
            c.due("none holds, parish " + p, x.share(0, 999, p), 0);
        }
        c.live(x, "A0d", 1);
        c.due("one holds", x.share(0, 999, 3), 999);
        c.due("another one does not", x.share(0, 999, 0), 0);
        c.live(x, "Ax", 1);
        for (int p = 0; p < 4; p++) {
            c.due("fallen, parish " + p, x.share(0, 999, p), 0);
        }
    }

    @Sentence(in = "Promise 23", says = "UNKNOWN: both; OUTSIDE.")
    static void shareIsRefused() {
        SaintsAhead x = new SaintsAhead();
        x.child(0, 0, 0, 0);
        x.child(5, 0, 0, 0);
        Sentences.bounds(c, "child", 0, 5, -1, k -> x.share(k, 1, 0));
        c.due("child 1, who is not there", x.share(1, 1, 0), -1);
        Sentences.bounds(c, "parish", 0, 3, -1, p -> x.share(0, 1, p));
        Sentences.bounds(c, "coins", 0, 999, -2, v -> x.share(0, v, 0));
        c.due("child and coins", x.share(1, 1000, 0), -1);
        c.due("parish and coins", x.share(0, -1, 4), -1);
        c.live(x, "A0a", 1);
        Sentences.bounds(c, "coins where one holds", 0, 999, -2, v -> x.share(0, v, 0));
    }

    @Sentence(in = "Promise 24", says = "A SIGHT more: how many.")
    static void seenAnswersHowMany() {
        SaintsAhead x = new SaintsAhead();
        for (int i = 1; i <= 8; i++) {
            c.due("sight " + i, x.seen(i, 9 - i, i % 2 == 0), i);
            c.due("sights " + i, x.told(6), i);
        }
    }

    @Sentence(in = "Promise 24", says = "OUTSIDE; FULL.")
    static void seenIsRefused() {
        SaintsAhead x = new SaintsAhead();
        Sentences.bounds(c, "wonders", 0, 9, -2, v -> x.seen(v, 0, true));
        Sentences.bounds(c, "sins", 0, 9, -2, v -> x.seen(0, v, false));
        for (int i = 5; i <= 8; i++) {
            c.due("sight " + i, x.seen(0, 0, true), i);
        }
        c.due("full, a saint", x.seen(0, 0, true), -4);
        c.due("full, none", x.seen(9, 9, false), -4);
        Sentences.bounds(c, "wonders where it is full", 0, 9, -2, v -> x.seen(v, 0, true));
        Sentences.bounds(c, "sins where it is full", 0, 9, -2, v -> x.seen(0, v, false));
    }

    @Sentence(in = "Promise 25", says = "SIGHTS go: how many there were.")
    static void forgetAnswersHowManyThereWere() {
        SaintsAhead x = new SaintsAhead();
        c.due("of none", x.forget(), 0);
        x.seen(9, 0, false);
        c.due("of one", x.forget(), 1);
        c.due("sights", x.told(6), 0);
        c.due("all laws fit", x.laws(-1), 100);
        for (int i = 0; i < 9; i++) {
            x.seen(9, 0, false);
        }
        c.due("of a full row", x.forget(), 8);
        c.due("again", x.forget(), 0);
        // What was made a saint before, or not, must not be so of the new one.
        c.due("one anew", x.seen(9, 0, true), 1);
        c.due("all laws fit again", x.laws(-1), 100);
        c.due("of one again", x.forget(), 1);
        c.due("another anew", x.seen(0, 9, false), 1);
        c.due("all laws but one fit", x.laws(-1), 99);
    }

    @Sentence(in = "Promise 26", says = "LAWS: how many (i = -1), the i-th; NONE.")
    static void lawsOrNone() {
        SaintsAhead x = new SaintsAhead();
        c.due("how many at first", x.laws(-1), 100);
        c.due("the least", x.laws(0), 0);
        c.due("the last", x.laws(99), 99);
        for (int i : new int[] {100, 101, -2, -3, Integer.MAX_VALUE, Integer.MIN_VALUE}) {
            c.due("laws(" + i + ")", x.laws(i), -6);
        }
        x.seen(0, 9, true);
        c.due("how many of one", x.laws(-1), 1);
        c.due("the one", x.laws(0), 9);
        c.due("no other", x.laws(1), -6);
        x.seen(0, 9, false);
        c.due("how many of none", x.laws(-1), 0);
        c.due("not one", x.laws(0), -6);
    }

    @Sentence(in = "Promise 27", says = "ASK: the life (what = 0), how many (1); NONE: no LAW fits.")
    static void askOrNone() {
        SaintsAhead x = new SaintsAhead();
        c.due("the life", x.ask(0), 40);
        c.due("how many", x.ask(1), 50);
        x.seen(0, 9, true);
        c.due("the life by one law", x.ask(0), 0);
        c.due("how many by one law", x.ask(1), 1);
        x.seen(0, 9, false);
        c.due("the life by none", x.ask(0), -6);
        c.due("how many by none", x.ask(1), -6);
    }

    @Sentence(in = "Promise 27", says = "OUTSIDE.")
    static void askIsRefused() {
        SaintsAhead x = new SaintsAhead();
        Sentences.bounds(c, "ask", 0, 1, -2, x::ask);
        x.seen(9, 0, false);
        Sentences.bounds(c, "ask where no law fits", 0, 1, -2, x::ask);
    }

    @Sentence(in = "Promise 28", says = "A YEAR-BOOK: SAINTS (what = 0), PURSES (1), PARTS (2).")
    static void bookEachWhat() {
        SaintsAhead x = new SaintsAhead();
        int[] ofNothing = {0, 400, 0};
        for (int what = 0; what < 3; what++) {
            c.due("of nothing " + what, x.book(9999, 99, what), ofNothing[what]);
        }
        // By 0 it is C's sin, which the law passes just so.
        x.child(2, 2, 0, 1);
        c.live(x, "C0aC7d", 2);
        int[] ofOne = {1, 380, 2};
        for (int what = 0; what < 3; what++) {
            c.due("of one " + what, x.book(0, 1, what), ofOne[what]);
        }
    }

    @Sentence(in = "Promise 28", says = "OUTSIDE.")
    static void bookIsRefused() {
        SaintsAhead x = new SaintsAhead();
        Sentences.bounds(c, "seed", 0, 9999, -2, seed -> x.book(seed, 1, 1));
        Sentences.bounds(c, "m", 1, 99, -2, m -> x.book(1, m, 1));
        Sentences.bounds(c, "what", 0, 2, -2, what -> x.book(1, 1, what));
    }

    /** All that an image keeps is changed. */
    private static void changeAll(SaintsAhead x) {
        x.child(0, 7, 7, 7);
        x.leave(0);
        x.child(1, 3, 3, 3);
        for (int i = 0; i < 3; i++) {
            x.law(i, 7);
        }
        for (int p = 0; p < 4; p++) {
            x.purse(p, 7);
        }
        for (int w = 0; w < 8; w++) {
            x.witness(w, 7);
        }
        x.offer(0, 7, 7, 7);
        x.forget();
        x.seen(7, 7, false);
        x.seen(8, 8, true);
        c.live(x, ".Bx", 2);
    }

    @Sentence(in = "Promise 29", says = "All but the PAD is kept in an IMAGE (0, 1): 1.")
    static void anImageKeepsAllButThePad() {
        for (int k = 0; k < 2; k++) {
            SaintsAhead x = new SaintsAhead();
            x.child(0, 5, 5, 5);
            x.seen(0, 9, true);
            c.live(x, "..A7dA0dAs", 5);
            c.tell(x, "Aw");
            c.due("image " + k, x.image(k), 1);
            c.due("the pad stays by an image", x.told(0), 2);
            changeAll(x);
            c.tell(x, "F");
            c.due("restore " + k, x.restore(k), 1);
            c.due("the pad is not kept", x.told(0), 1);
            c.due("nor its text", x.fault(), 1);
            int[] plain = {1, 1, 2, 1, 1, 2, 1};
            int[] ofA = {5, 6, 5, 0, 10, 10, 4095};
            for (int i = 0; i < 7; i++) {
                c.due("told " + i, x.told(i), plain[i]);
                c.due("told " + (50 + i), x.told(50 + i), ofA[i]);
            }
            for (int p = 0; p < 4; p++) {
                c.due("purse of " + p, x.told(10 + p), p == 3 ? 80 : 100);
            }
            for (int i = 0; i < 8; i++) {
                c.due("witness " + i, x.told(20 + i), 0);
                c.due("part " + i, x.told(60 + i), i == 0 || i == 7 ? 3 : -6);
            }
            c.due("how many laws", x.laws(-1), 1);
            c.due("the law", x.laws(0), 9);
        }
    }

    @Sentence(in = "Promise 29", says = "OUTSIDE.")
    static void imageIsRefused() {
        SaintsAhead x = new SaintsAhead();
        Sentences.bounds(c, "image", 0, 1, -2, x::image);
        SaintsAhead y = new SaintsAhead();
        c.due("image 2", y.image(2), -2);
        c.due("image -1", y.image(-1), -2);
        c.due("nothing is kept in 0", y.restore(0), -3);
        c.due("nor in 1", y.restore(1), -3);
    }

    @Sentence(in = "Promise 30", says = "It is as it was when it was kept: 1.")
    static void restoreAsItWasWhenItWasKept() {
        SaintsAhead x = new SaintsAhead();
        c.due("image 0 of nothing", x.image(0), 1);
        x.child(0, 1, 1, 1);
        c.due("image 1", x.image(1), 1);
        changeAll(x);
        c.due("restore 1", x.restore(1), 1);
        c.due("A alone is there", x.told(1), 1);
        c.due("year 0", x.told(5), 0);
        c.due("restore 0", x.restore(0), 1);
        c.due("none is there", x.told(1), 0);
        c.due("restore 1 again", x.restore(1), 1);
        c.due("A is there again", x.told(1), 1);
        c.live(x, "AwAs.", 3);
        c.due("restore 1 by what was done", x.restore(1), 1);
        c.due("the image stays by it", x.told(50), 1);
        c.due("the year too", x.told(5), 0);
        x.child(0, 9, 9, 9);
        c.due("image 1 anew", x.image(1), 1);
        x.child(0, 8, 8, 8);
        c.due("restore 1 anew", x.restore(1), 1);
        c.due("the newest is kept", x.told(50), 9);
        c.due("restore 0 still", x.restore(0), 1);
        c.due("the other one stays", x.told(1), 0);
    }

    @Sentence(in = "Promise 30", says = "It is as it was when it was kept: 1.")
    static void aFallenOneIsRestored() {
        SaintsAhead x = new SaintsAhead();
        x.child(3, 9, 0, 9);
        c.live(x, "D4b", 1);
        x.image(0);
        c.live(x, "Dx", 1);
        x.image(1);
        x.restore(0);
        c.due("not fallen", x.told(203), 0);
        c.due("its part is b's", x.told(214), 1);
        c.due("b's purse", x.told(11), 90);
        x.restore(1);
        c.due("fallen", x.told(203), 1);
        c.due("its part is nobody's", x.told(214), -6);
        c.due("b's purse then", x.told(11), 100);
    }

    @Sentence(in = "Promise 30", says = "OUTSIDE; STATE: it was not.")
    static void restoreIsRefused() {
        SaintsAhead x = new SaintsAhead();
        c.due("restore 0", x.restore(0), -3);
        c.due("restore 1", x.restore(1), -3);
        x.image(1);
        c.due("restore 0 still", x.restore(0), -3);
        c.due("restore 1 then", x.restore(1), 1);
        Sentences.bounds(c, "restore", 0, 1, -2, x::restore);
        SaintsAhead y = new SaintsAhead();
        y.image(0);
        c.due("restore 1 of another", y.restore(1), -3);
        c.due("restore 0 of another", y.restore(0), 1);
    }

    @Sentence(in = "Promise 31", says = "0 signs, 1 CHILDREN (bits), 2 to 4 the LAW, 5 the year, 6 SIGHTS")
    static void toldOfAll() {
        SaintsAhead x = new SaintsAhead();
        int[] first = {0, 0, 2, 1, 1, 0, 0};
        for (int what = 0; what < 7; what++) {
            c.due("told " + what + " at first", x.told(what), first[what]);
        }
        x.law(0, 7);
        x.law(1, 8);
        x.law(2, 9);
        for (int k = 0; k < 6; k++) {
            x.child(k, 0, 0, 0);
        }
        for (int i = 0; i < 8; i++) {
            x.seen(0, 0, true);
        }
        c.live(x, "..", 2);
        c.tell(x, ".".repeat(60));
        int[] then = {60, 63, 7, 8, 9, 2, 8};
        for (int what = 0; what < 7; what++) {
            c.due("told " + what, x.told(what), then[what]);
        }
    }

    @Sentence(in = "Promise 31", says = "10 and a PARISH: its PURSE, 20 and a WITNESS: what he saw")
    static void toldOfParishesAndWitnesses() {
        SaintsAhead x = new SaintsAhead();
        for (int p = 0; p < 4; p++) {
            x.purse(p, 996 + p);
        }
        for (int w = 0; w < 8; w++) {
            x.witness(w, 1016 + w);
        }
        for (int what = 7; what < 50; what++) {
            int due = what >= 10 && what < 14 ? 986 + what : what >= 20 && what < 28 ? 996 + what : -2;
            c.due("told " + what, x.told(what), due);
        }
    }

    @Sentence(in = "Promise 31", says = "50 times (1 and a CHILD that there is) and 0 WONDERS, 1 SINS, 2 SEEN, "
            + "3 FALLEN (1, 0), 4 COSTS, 5 WORTH, 6 days, 10 and a PART: by whom it is held (NONE).")
    static void toldOfEachChild() {
        for (int k = 0; k < 6; k++) {
            SaintsAhead x = new SaintsAhead();
            x.child(k, 99, 98, 97);
            x.offer(k, 96, 995, 4094);
            c.live(x, (char) ('A' + k) + "0d" + (char) ('A' + k) + "7a", 2);
            int[] details = {99, 98, 97, 0, 96, 995, 4094, -2, -2, -2, 3, -6, -6, -6, -6, -6, -6, 0};
            for (int detail = 0; detail < 50; detail++) {
                int due = detail < details.length ? details[detail] : -2;
                c.due("told " + (50 * (1 + k) + detail), x.told(50 * (1 + k) + detail), due);
            }
            c.live(x, (char) ('A' + k) + "x", 1);
            c.due("fallen", x.told(50 * (1 + k) + 3), 1);
            c.due("part 0 is nobody's", x.told(50 * (1 + k) + 10), -6);
        }
    }

    @Sentence(in = "Promise 31", says = "OUTSIDE.")
    static void toldIsRefused() {
        SaintsAhead x = new SaintsAhead();
        x.child(0, 1, 1, 1);
        x.child(5, 1, 1, 1);
        Sentences.bounds(c, "told", 0, 317, -2, x::told);
        for (int what : new int[] {7, 8, 9, 14, 19, 28, 49, 57, 59, 68, 99, 307, 309, 318, 349, 350, 360}) {
            c.due("told " + what, x.told(what), -2);
        }
        for (int what : new int[] {100, 103, 110, 150, 200, 250, 267}) {
            c.due("of one who is not there, " + what, x.told(what), -2);
        }
        for (int what = -60; what < 0; what++) {
            c.due("told " + what, x.told(what), -2);
        }
        x.leave(5);
        c.due("of one who left", x.told(300), -2);
    }
}
