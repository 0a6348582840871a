/** Promises 24 to 31: laws from lives, year-books, images, what is told. */
public final class LawsTest {
    private static final Checks c = new Checks();

    public static void main(String[] args) {
        seenAndForget();
        laws();
        ask();
        book();
        bookRefused();
        images();
        imagesApart();
        imagesRefused();
        told();
        c.end();
    }

    private static void seenAndForget() {
        SaintsAhead x = new SaintsAhead();
        c.due("forget nothing", x.forget(), 0);
        c.due("wonders -1", x.seen(-1, 0, true), -2);
        c.due("wonders 10", x.seen(10, 0, true), -2);
        c.due("sins -1", x.seen(0, -1, false), -2);
        c.due("sins 10", x.seen(0, 10, false), -2);
        for (int i = 1; i <= 8; i++) {
            c.due("sight " + i, x.seen(9, 0, true), i);
        }
        c.due("the ninth", x.seen(9, 0, true), -4);
        c.due("the ninth, outside", x.seen(10, 0, true), -2);
        c.due("sights", x.told(6), 8);
        c.due("forget", x.forget(), 8);
        c.due("forget again", x.forget(), 0);
        c.due("sights", x.told(6), 0);
        c.due("one anew", x.seen(0, 0, false), 1);
        c.due("what was forgotten is so", x.laws(-1), 90);
    }

    private static void laws() {
        SaintsAhead x = new SaintsAhead();
        c.due("all laws", x.laws(-1), 100);
        c.due("laws(-2)", x.laws(-2), -6);
        c.due("laws(0)", x.laws(0), 0);
        c.due("laws(57)", x.laws(57), 57);
        c.due("laws(99)", x.laws(99), 99);
        c.due("laws(100)", x.laws(100), -6);
        x.seen(2, 8, true);
        c.due("need 0 to 2, pass 8 or 9", x.laws(-1), 6);
        int[] fit = {8, 9, 18, 19, 28, 29, -6};
        for (int i = 0; i < fit.length; i++) {
            c.due("laws(" + i + ")", x.laws(i), fit[i]);
        }
        x.seen(1, 9, false);
        // Those of the six whose need is 2 or whose pass is 8.
        int[] left = {8, 18, 28, 29, -6};
        for (int i = 0; i < left.length; i++) {
            c.due("laws(" + i + ") then", x.laws(i), left[i]);
        }
        c.due("laws(-1) then", x.laws(-1), 4);
        x.seen(2, 8, false);
        c.due("none fit", x.laws(-1), 0);
        c.due("laws(0) of none", x.laws(0), -6);
        c.due("laws greatest", x.laws(Integer.MAX_VALUE), -6);
        c.due("laws least", x.laws(Integer.MIN_VALUE), -6);
    }

    private static void ask() {
        SaintsAhead x = new SaintsAhead();
        c.due("ask(-1)", x.ask(-1), -2);
        c.due("ask(2)", x.ask(2), -2);
        c.due("ask(0)", x.ask(0), 40);
        c.due("ask(1)", x.ask(1), 50);
        x.seen(2, 8, true);
        // Of needs 0 to 2 and passes 8, 9 only nine sins part the halves: fewer wonders part 2 or 1 of six.
        c.due("ask(0) of six", x.ask(0), 29);
        c.due("ask(1) of six", x.ask(1), 3);
        x.seen(1, 9, false);
        // Of 08, 18, 28, 29 a life of one wonder and no sin parts the halves.
        c.due("ask(0) of four", x.ask(0), 10);
        c.due("ask(1) of four", x.ask(1), 2);
        x.seen(2, 9, true);
        x.seen(3, 9, false);
        c.due("ask(0) of none", x.ask(0), -6);
        c.due("ask(1) of none", x.ask(1), -6);
        c.due("ask(2) of none", x.ask(2), -2);
        x.forget();
        x.seen(0, 0, true);
        x.seen(1, 1, false);
        c.due("pass 0, need 0", x.laws(-1), 1);
        c.due("ask(0) of one", x.ask(0), 0);
        c.due("ask(1) of one", x.ask(1), 1);
    }

    private static void book() {
        SaintsAhead x = new SaintsAhead();
        // 75 * 0 + 74 = 74: child 2, 74 / 6 = 12, by 8 left over 4: a sin.
        x.child(2, 2, 1, 1);
        c.due("a saint before", x.saints(), 4);
        c.due("a sin", x.book(0, 1, 0), 0);
        x.law(1, 2);
        c.due("passes", x.book(0, 1, 0), 1);
        // 75 * 1 + 74 = 149: child 5, 24 by 8 left over 0: a wonder.
        x.child(5, 1, 0, 1);
        c.due("a wonder", x.book(1, 1, 0), 2);
        // 75 * 4 + 74 = 374: child 2, 62 by 8 left over 6: it is seen.
        x.law(2, 2);
        c.due("is seen", x.book(4, 1, 0), 1);
        // 75 * 12 + 74 = 974: child 2, 162 by 8 left over 2: a wonder.
        c.due("purses", x.book(12, 1, 1), 400);
        lettings();
        penance();
        c.due("nothing is done", x.told(152), 1);
        c.due("no sin either", x.told(151), 1);
    }

    private static int seedOf(int wanted, int lot) {
        for (int seed = 0; seed <= 9999; seed++) {
            int x = (75 * seed + 74) % 65537;
            if (x % 6 == wanted && x / 6 % 8 == lot) {
                return seed;
            }
        }
        return -1;
    }

    private static void lettings() {
        SaintsAhead x = new SaintsAhead();
        int seed = seedOf(3, 7);
        int drawn = (75 * seed + 74) % 65537;
        int part = drawn / 48 % 8;
        int parish = drawn / 384 % 4;
        c.due("no such child", x.book(seed, 1, 2), 0);
        x.child(3, 0, 0, 0);
        c.due("a part is let", x.book(seed, 1, 2), 1);
        c.due("for 10", x.book(seed, 1, 1), 390);
        x.purse(parish, 9);
        c.due("not for 9", x.book(seed, 1, 2), 0);
        c.due("purses then", x.book(seed, 1, 1), 309);
        x.purse(parish, 10);
        c.due("for 10 of 10", x.book(seed, 1, 1), 300);
        c.tell(x, "D" + part + (char) ('a' + (parish + 1) % 4));
        x.done();
        c.due("held already", x.book(seed, 1, 1), 300);
        c.due("held still", x.book(seed, 1, 2), 1);
        c.tell(x, "Dx");
        x.done();
        c.due("not of one fallen", x.book(seed, 1, 2), 0);
        c.due("the pad is free for it", x.say('!'), 1);
        c.due("by a fault too", x.book(seed, 1, 1), 310);
    }

    private static void penance() {
        SaintsAhead x = new SaintsAhead();
        int seed = seedOf(0, 5);
        x.child(0, 2, 2, 1);
        c.due("a penance makes a saint", x.book(seed, 1, 0), 1);
        x.child(0, 2, 3, 1);
        c.due("one is not enough", x.book(seed, 1, 0), 0);
        x.child(0, 2, 0, 1);
        c.due("none to do", x.book(seed, 1, 0), 1);
    }

    private static void bookRefused() {
        SaintsAhead x = new SaintsAhead();
        c.due("seed -1", x.book(-1, 1, 0), -2);
        c.due("seed 10000", x.book(10000, 1, 0), -2);
        c.due("m 0", x.book(0, 0, 0), -2);
        c.due("m 100", x.book(0, 100, 0), -2);
        c.due("what -1", x.book(0, 1, -1), -2);
        c.due("what 3", x.book(0, 1, 3), -2);
        c.due("the edges", x.book(9999, 99, 1), 400);
    }

    private static void images() {
        SaintsAhead x = new SaintsAhead();
        x.child(1, 3, 1, 4);
        x.offer(1, 5, 6, 7);
        x.offer(2, 8, 9, 10);
        x.purse(2, 222);
        x.witness(7, 777);
        x.law(0, 3);
        x.law(1, 4);
        x.law(2, 4);
        x.seen(5, 5, true);
        x.seen(5, 6, false);
        c.tell(x, "B4c..B5cBs");
        x.done();
        // An object is used for 512 calls at most, so only what is told of B and of no child is looked at.
        int[] before = new int[118];
        for (int what = 0; what < before.length; what++) {
            before[what] = x.told(what);
        }
        c.due("image(0)", x.image(0), 1);
        c.tell(x, "BwBx.");
        x.done();
        x.child(0, 1, 1, 1);
        x.child(2, 1, 1, 1);
        x.leave(1);
        x.offer(1, 0, 0, 0);
        x.purse(2, 0);
        x.witness(7, 0);
        x.law(0, 0);
        x.law(1, 0);
        x.law(2, 0);
        x.forget();
        x.seen(0, 0, false);
        x.seen(0, 0, true);
        x.seen(0, 0, true);
        c.tell(x, "Aw");
        c.due("restore(0)", x.restore(0), 1);
        c.due("the pad stays", x.told(0), 2);
        c.due("the pad's text stays", x.judge(1), 1);
        x.wipe();
        for (int what = 0; what < before.length; what++) {
            c.due("told(" + what + ") as it was", x.told(what), before[what]);
        }
        c.due("laws as they were", x.laws(-1), 6);
        c.due("laws(0) as it was", x.laws(0), 5);
        c.due("saints as they were", x.saints(), 2);
        x.child(2, 0, 0, 0);
        c.due("an offer as it was", x.told(156), 10);
        c.due("restore(0) again", x.restore(0), 1);
        c.due("one child again", x.told(1), 2);
    }

    private static void imagesApart() {
        SaintsAhead x = new SaintsAhead();
        x.child(0, 1, 0, 0);
        c.due("image(0)", x.image(0), 1);
        x.child(0, 2, 0, 0);
        c.due("image(1)", x.image(1), 1);
        x.child(0, 3, 0, 0);
        c.due("restore(0)", x.restore(0), 1);
        c.due("of 0", x.told(50), 1);
        c.due("restore(1)", x.restore(1), 1);
        c.due("of 1", x.told(50), 2);
        c.tell(x, "Aw");
        x.done();
        c.due("restore(1)", x.restore(1), 1);
        c.due("an image stays by what is done", x.told(50), 2);
        x.child(0, 9, 0, 0);
        c.due("image(0) anew", x.image(0), 1);
        x.leave(0);
        c.due("restore(0)", x.restore(0), 1);
        c.due("of the new 0", x.told(50), 9);
    }

    private static void imagesRefused() {
        SaintsAhead x = new SaintsAhead();
        c.due("image(-1)", x.image(-1), -2);
        c.due("image(2)", x.image(2), -2);
        c.due("restore(-1)", x.restore(-1), -2);
        c.due("restore(2)", x.restore(2), -2);
        c.due("restore(0)", x.restore(0), -3);
        x.image(1);
        c.due("restore(0) still", x.restore(0), -3);
        c.due("restore(1)", x.restore(1), 1);
    }

    private static void told() {
        SaintsAhead x = new SaintsAhead();
        x.child(0, 1, 2, 3);
        x.child(5, 4, 5, 6);
        c.tell(x, "A0aF7d");
        x.done();
        c.tell(x, "Fx.");
        x.done();
        c.tell(x, "Aw.");
        for (int what = -10; what <= 360; what++) {
            c.due("told(" + what + ")", x.told(what), dueTold(what));
        }
        c.due("told greatest", x.told(Integer.MAX_VALUE), -2);
        c.due("told least", x.told(Integer.MIN_VALUE), -2);
    }

    private static int dueTold(int what) {
        int[] plain = {3, 33, 2, 1, 1, 1, 0};
        int[] ofA = {1, 2, 3, 0, 10, 10, 4095};
        int[] ofF = {4, 5, 6, 1, 10, 10, 4095};
        int[] purses = {90, 100, 100, 100};
        if (what >= 0 && what < 7) {
            return plain[what];
        }
        if (what >= 10 && what < 14) {
            return purses[what - 10];
        }
        if (what >= 20 && what < 28) {
            return 0;
        }
        if (what >= 50 && what < 57) {
            return ofA[what - 50];
        }
        if (what >= 60 && what < 68) {
            return what == 60 ? 0 : -6;
        }
        if (what >= 300 && what < 307) {
            return ofF[what - 300];
        }
        return what >= 310 && what < 318 ? -6 : -2;
    }
}
