/** 'Terms', part 4: sights, laws, the life to ask of, year-books. */
public final class BoundsLawsTest {
    private static final Checks c = new Checks();

    public static void main(String[] args) throws IllegalAccessException {
        Sentences.hold(BoundsLawsTest.class, c);
    }

    // ---- sights, laws, ask

    @Sentence(in = "Terms", says = "SIGHTS, 8 at most")
    static void sightsAre8AtMost() {
        SaintsAhead x = new SaintsAhead();
        c.due("at first", x.told(6), 0);
        // The eighth still tells: need 8 at most, and above 7.
        for (int i = 1; i <= 7; i++) {
            c.due("sight " + i, x.seen(i, 0, false), i);
        }
        c.due("sight 8", x.seen(8, 0, true), 8);
        c.due("laws of eight", x.laws(-1), 10);
        c.due("sight 9", x.seen(0, 0, true), -4);
        c.due("sights", x.told(6), 8);
        c.due("laws still", x.laws(-1), 10);
        c.due("forget", x.forget(), 8);
        c.due("sight 1 again", x.seen(0, 0, true), 1);
    }

    @Sentence(in = "Terms", says = "a life of w WONDERS and s SINS (0 to 9 both), seen enough, made a SAINT, or not.")
    static void livesAre0To9() {
        SaintsAhead x = new SaintsAhead();
        Sentences.bounds(c, "wonders", 0, 9, -2, v -> x.seen(v, 0, false));
        Sentences.bounds(c, "sins", 0, 9, -2, v -> x.seen(0, v, true));
        c.due("sights", x.told(6), 4);
        x.forget();
        x.law(2, 9);
        c.due("(9, 0) a saint", x.seen(9, 0, true), 1);
        c.due("by every law", x.laws(-1), 100);
        c.due("(0, 9) none", x.seen(0, 9, false), 2);
        c.due("by all but one", x.laws(-1), 99);
    }

    private static void lawsBy(SaintsAhead x, int... fit) {
        c.due("laws(-1)", x.laws(-1), fit.length);
        for (int i = 0; i < fit.length; i++) {
            c.due("laws(" + i + ")", x.laws(i), fit[i]);
        }
        c.due("laws(" + fit.length + ")", x.laws(fit.length), -6);
    }

    @Sentence(in = "Terms", says = "LAWS: twos of NEED and PASS (0 to 9 both) by which all SIGHTS are so: how many; "
            + "the i-th (10 times NEED and PASS; rising).")
    static void lawsAreAllOrNoneOrOne() {
        int[] all = new int[100];
        for (int i = 0; i < 100; i++) {
            all[i] = i;
        }
        SaintsAhead x = new SaintsAhead();
        lawsBy(x, all);
        x.seen(9, 0, false);
        lawsBy(x);
        x.forget();
        x.seen(0, 9, true);
        lawsBy(x, 9);
        x.forget();
        x.seen(9, 9, true);
        lawsBy(x, 9, 19, 29, 39, 49, 59, 69, 79, 89, 99);
        x.seen(8, 9, false);
        lawsBy(x, 99);
        x.seen(8, 0, true);
        lawsBy(x);
    }

    @Sentence(in = "Terms", says = "LAWS: twos of NEED and PASS (0 to 9 both) by which all SIGHTS are so: how many; "
            + "the i-th (10 times NEED and PASS; rising).")
    static void lawsByALifeAtTheirEdge() {
        SaintsAhead x = new SaintsAhead();
        x.seen(0, 0, true);
        lawsBy(x, 0, 1, 2, 3, 4, 5, 6, 7, 8, 9);
        x.seen(0, 1, false);
        lawsBy(x, 0);
        x.forget();
        x.seen(1, 8, true);
        lawsBy(x, 8, 9, 18, 19);
        x.seen(0, 8, false);
        lawsBy(x, 18, 19);
        x.seen(1, 9, true);
        lawsBy(x, 19);
    }

    private static void asking(SaintsAhead x, int life, int left) {
        c.due("ask(0)", x.ask(0), life);
        c.due("ask(1)", x.ask(1), left);
    }

    @Sentence(in = "Terms", says = "ASK: the life (10 times w and s) to ask of next, so that, whatever it made, fewest of "
            + "these are left at the most: the least; how many; NONE.")
    static void askOfNoneOneTwoAndAll() {
        SaintsAhead x = new SaintsAhead();
        // Need up to 4 makes a saint of four wonders and no sin: 50 of 100, and no life before it halves them.
        asking(x, 40, 50);
        x.seen(9, 0, false);
        asking(x, -6, -6);
        x.forget();
        x.seen(0, 9, true);
        asking(x, 0, 1);
        x.forget();
        x.seen(0, 8, true);
        asking(x, 9, 1);
        x.forget();
        x.seen(8, 9, false);
        x.seen(9, 9, true);
        x.seen(8, 8, true);
        asking(x, -6, -6);
    }

    @Sentence(in = "Terms", says = "ASK: the life (10 times w and s) to ask of next, so that, whatever it made, fewest of "
            + "these are left at the most: the least; how many; NONE.")
    static void askOfThree() {
        SaintsAhead x = new SaintsAhead();
        // Need 9, 8 or 7 by pass 9: eight wonders part two of them from one, seven one from two, the least is told.
        x.seen(6, 9, false);
        x.seen(9, 9, true);
        x.seen(6, 0, false);
        lawsBy(x, 79, 89, 99);
        asking(x, 70, 2);
        x.seen(7, 0, false);
        lawsBy(x, 89, 99);
        asking(x, 80, 1);
        x.seen(8, 5, false);
        lawsBy(x, 99);
        asking(x, 0, 1);
    }

    // ---- year-books

    private static int drawn(int seed) {
        return (75 * seed + 74) % 65537;
    }

    private static int seedOf(int child, int lot) {
        for (int seed = 0; seed <= 9999; seed++) {
            if (drawn(seed) % 6 == child && drawn(seed) / 6 % 8 == lot) {
                return seed;
            }
        }
        return -1;
    }

    @Sentence(in = "Terms", says = "A YEAR-BOOK by a seed (0 to 9999) of m ACTS (1 to 99), from all as it is")
    static void seedsAre0To9999And1To99Acts() {
        SaintsAhead x = new SaintsAhead();
        Sentences.bounds(c, "seed", 0, 9999, -2, seed -> x.book(seed, 1, 0));
        Sentences.bounds(c, "m", 1, 99, -2, m -> x.book(0, m, 0));
        // By 0 it is C's sin: 74 = 6 * 12 + 2, 12 = 8 + 4.
        x.child(2, 2, 1, 1);
        c.due("seed 0", x.book(0, 1, 0), 0);
        x.leave(2);
        // By 9999 it is E's wonder: 749999 - 11 * 65537 = 29092 = 6 * 4848 + 4, 4848 = 8 * 606.
        x.child(4, 1, 0, 1);
        c.due("seed 9999", x.book(9999, 1, 0), 1);
    }

    @Sentence(in = "Terms", says = "A YEAR-BOOK by a seed (0 to 9999) of m ACTS (1 to 99), from all as it is")
    static void theLastActIsDrawnToo() {
        SaintsAhead x = new SaintsAhead();
        x.law(0, 0);
        x.law(1, 9);
        x.law(2, 9);
        // By 5525 the sixteenth x is 0: a wonder of A; so by 15 acts it is not there yet.
        x.child(0, 0, 0, 9);
        int wonders = 0;
        int number = 5525;
        for (int i = 1; i <= 15; i++) {
            number = drawn(number);
            wonders += number % 6 == 0 && number / 6 % 8 < 3 ? 1 : 0;
        }
        c.due("x comes to 0", drawn(number), 0);
        x.law(0, wonders + 1);
        c.due("15 acts", x.book(5525, 15, 0), 0);
        c.due("16 acts", x.book(5525, 16, 0), 1);
    }

    @Sentence(in = "Terms", says = "x becomes (75 x and 74) left over by 65537")
    static void xIsLeftOverBy65537() {
        SaintsAhead x = new SaintsAhead();
        x.child(0, 1, 0, 1);
        // By 873 it is 65549, left over 12: A's wonder; without it, it would be F.
        c.due("just above", x.book(873, 1, 0), 1);
        x.leave(0);
        x.child(2, 1, 0, 1);
        // By 872 it is 65474, which stays: C's wonder.
        c.due("just below", x.book(872, 1, 0), 1);
    }

    @Sentence(in = "Terms", says = "of CHILD x left over by 6, by x by 6 (cut) left over by 8: 0, 1, 2 a WONDER, 3, 4 a SIN, "
            + "5 a penance, 6 it is SEEN")
    static void eachLotOfEachChild() {
        int[][] profiles = {{1, 0, 1}, {2, 1, 1}, {2, 2, 1}, {2, 0, 0}};
        int[][] saints = {{1, 1, 0, 0}, {1, 1, 0, 0}, {1, 1, 0, 0}, {0, 0, 0, 0}, {0, 0, 0, 0}, {0, 1, 1, 0}, {0, 1, 0, 1},
            {0, 1, 0, 0}};
        for (int child = 0; child < 6; child++) {
            SaintsAhead x = new SaintsAhead();
            for (int lot = 0; lot < 8; lot++) {
                int seed = seedOf(child, lot);
                for (int i = 0; i < 4; i++) {
                    x.child(child, profiles[i][0], profiles[i][1], profiles[i][2]);
                    c.due("lot " + lot + " of child " + child + ", life " + i, x.book(seed, 1, 0), saints[lot][i]);
                }
                c.due("parts by lot " + lot, x.book(seed, 1, 2), lot == 7 ? 1 : 0);
            }
        }
    }

    @Sentence(in = "Terms", says = "7 PART x by 48 (cut) left over by 8 is let to PARISH x by 384 (cut) left over by 4")
    static void eachPartAndParish() {
        boolean[] looked = new boolean[32];
        for (int seed = 0; seed <= 9999; seed++) {
            int number = drawn(seed);
            int part = number / 48 % 8;
            int parish = number / 384 % 4;
            if (number / 6 % 8 == 7 && !looked[4 * part + parish]) {
                looked[4 * part + parish] = true;
                letTo(seed, number % 6, part, parish);
            }
        }
        for (int i = 0; i < 32; i++) {
            c.due("looked at part and parish " + i, looked[i] ? 1 : 0, 1);
        }
    }

    private static void letTo(int seed, int child, int part, int parish) {
        SaintsAhead x = new SaintsAhead();
        x.child(child, 0, 0, 0);
        for (int p = 0; p < 4; p++) {
            x.purse(p, p == parish ? 10 : 9);
        }
        c.due("let to the one who can pay, by " + seed, x.book(seed, 1, 2), 1);
        c.due("who pays 10", x.book(seed, 1, 1), 27);
        x.purse(parish, 20);
        c.live(x, "" + (char) ('A' + child) + part + (char) ('a' + parish), 1);
        c.due("not twice", x.book(seed, 1, 2), 1);
        c.due("nor for 10 more", x.book(seed, 1, 1), 37);
    }

    @Sentence(in = "Terms", says = "each if that can be")
    static void whatCanNotBeIsNotDrawn() {
        SaintsAhead x = new SaintsAhead();
        c.due("no child, saints", x.book(214, 99, 0), 0);
        c.due("no child, purses", x.book(214, 99, 1), 400);
        c.due("no child, parts", x.book(214, 99, 2), 0);
        // By 214 parts 7 and 2 of C are let to b.
        x.child(2, 0, 0, 0);
        c.due("two parts", x.book(214, 2, 2), 2);
        x.purse(1, 19);
        c.due("a purse of 19", x.book(214, 2, 2), 1);
        c.due("9 are left of it", x.book(214, 2, 1), 309);
        x.purse(1, 9);
        c.due("a purse of 9", x.book(214, 2, 2), 0);
        x.purse(1, 100);
        c.live(x, "C7a", 1);
        c.due("one is held already", x.book(214, 2, 2), 2);
        c.due("and is not paid", x.book(214, 2, 1), 380);
        c.live(x, "Cx", 1);
        c.due("of one fallen", x.book(214, 2, 2), 0);
    }

    @Sentence(in = "Terms", says = "each if that can be")
    static void noPenanceIsDrawnWithoutASin() {
        SaintsAhead x = new SaintsAhead();
        x.law(1, 0);
        // By 2 it is C's penance and then C's sin.
        x.child(2, 2, 0, 1);
        c.due("behind the penance", x.book(2, 1, 0), 1);
        c.due("behind the sin", x.book(2, 2, 0), 0);
        x.child(2, 2, 1, 1);
        c.due("a penance that can be", x.book(2, 1, 0), 1);
    }

    @Sentence(in = "Terms", says = "how many SAINTS there are then; PURSES together; how many PARTS are held.")
    static void aBookOfNothingAndOfAll() {
        SaintsAhead x = new SaintsAhead();
        for (int p = 0; p < 4; p++) {
            x.purse(p, 0);
        }
        c.due("no purse", x.book(0, 99, 1), 0);
        for (int p = 0; p < 4; p++) {
            x.purse(p, 999);
        }
        c.due("full purses", x.book(0, 99, 1), 3996);
        x.law(0, 0);
        x.law(1, 9);
        x.law(2, 0);
        for (int k = 0; k < 6; k++) {
            x.child(k, 0, 0, 0);
            StringBuilder text = new StringBuilder();
            for (int part = 0; part < 8; part++) {
                text.append((char) ('A' + k)).append(part).append((char) ('a' + k % 4));
            }
            c.live(x, text.toString(), 8);
        }
        c.due("six saints", x.book(0, 1, 0), 6);
        c.due("all 48 parts", x.book(0, 99, 2), 48);
        c.due("paid for by 480", x.book(0, 99, 1), 3516);
    }

    @Sentence(in = "Terms", says = "Nothing is DONE in fact.")
    static void aBookChangesNothing() {
        SaintsAhead x = new SaintsAhead();
        for (int k = 0; k < 6; k++) {
            x.child(k, 1, 1, 0);
        }
        c.tell(x, "Aw");
        for (int seed = 0; seed < 100; seed++) {
            x.book(99 * seed, 99, seed % 3);
        }
        for (int k = 0; k < 6; k++) {
            c.due("wonders of " + k, x.told(50 * (1 + k)), 1);
            c.due("sins of " + k, x.told(50 * (1 + k) + 1), 1);
            c.due("seen of " + k, x.told(50 * (1 + k) + 2), 0);
            for (int part = 0; part < 8; part++) {
                c.due("part " + part + " of " + k, x.told(50 * (1 + k) + 10 + part), -6);
            }
        }
        for (int p = 0; p < 4; p++) {
            c.due("purse of " + p, x.told(10 + p), 100);
        }
        c.due("year", x.told(5), 0);
        c.due("the pad is still to be done", x.done(), 1);
        c.due("and is", x.told(50), 2);
    }
}
