/** The boundary sentences of the promises 19 to 29: each has a test of its own, on either side. */
public final class FineScripEdgesOfLooks {
    private static final int LEAST_INT = Integer.MIN_VALUE;
    private static final int MOST_INT = Integer.MAX_VALUE;
    private static final int[] NO_AMOUNTS = {0, -1, 10000, LEAST_INT, MOST_INT};

    private static void nothing(FineScrip x) {
        // The object stays as it is.
    }

    /** A camp of one digger, by even cents, whose store has paid so much more than the worth. */
    private static FineScrip loss(int cents) {
        FineScrip x = Edges.evenCamp(1);
        x.vein(0, 1000);
        x.adjust(cents);
        x.weigh(0, 1000);
        return x;
    }

    // ---- 19

    private static void diggerOf() {
        Edges.test("19: Throws IndexOutOfBoundsException if there is no such digger", () -> {
            for (int digger : new int[] {-1, 3, 8, LEAST_INT, MOST_INT}) {
                Edges.refused("diggerOf " + digger, Edges.INDEX, Edges::busy, y -> y.diggerOf(digger, 0));
            }
            Edges.refused("nobody came", Edges.INDEX, FineScripEdgesOfLooks::nothing, y -> y.diggerOf(0, 0));
            FineScrip x = Edges.evenCamp(8);
            Edges.due("the first", 0, x.diggerOf(0, 2));
            Edges.due("the last", 7, x.diggerOf(7, 2));
            Edges.refusedHere("the ninth", Edges.INDEX, x, y -> y.diggerOf(8, 2));
            FineScrip undone = new FineScrip();
            undone.digger();
            undone.undo();
            Edges.refusedHere("one who is undone", Edges.INDEX, undone, y -> y.diggerOf(0, 0));
        });
        Edges.test("19: Throws IllegalArgumentException if what is not 0 to 8", () -> {
            for (int what : new int[] {-1, 9, LEAST_INT, MOST_INT}) {
                Edges.refused("diggerOf " + what, Edges.ARGUMENT, Edges::busy, y -> y.diggerOf(0, what));
            }
        });
        Edges.test("19: the exception that is named first is thrown", () -> {
            Edges.refused("no digger, what 9", Edges.INDEX, Edges::busy, y -> y.diggerOf(3, 9));
            Edges.refused("no digger, what -1", Edges.INDEX, Edges::busy, y -> y.diggerOf(-1, -1));
        });
        Edges.test("19: what 0 to 8 of one who used all", () -> {
            FineScrip x = new FineScrip();
            x.digger();
            x.stake(0, 6);
            x.vein(6, 701);
            x.weigh(0, 1000);
            x.buy(0, 2860);
            x.weigh(0, 101);
            // 2850 and 285 are paid, of price 3000 and 300; of the debt 10 all is paid.
            long[] want = {275, 0, 6, 1101, 771, 3135, 165, 2860, 1};
            for (int what = 0; what <= 8; what++) {
                Edges.due("what " + what, want[what], x.diggerOf(0, what));
            }
        });
        Edges.test("19: the claim, NONE without one", () -> {
            FineScrip x = new FineScrip();
            x.digger();
            Edges.due("never had one", FineScrip.NONE, x.diggerOf(0, 2));
            x.stake(0, 0);
            Edges.due("the claim 0", 0, x.diggerOf(0, 2));
            x.leave(0);
            Edges.due("left", FineScrip.NONE, x.diggerOf(0, 2));
            x.stake(0, 9);
            Edges.due("the claim 9", 9, x.diggerOf(0, 2));
            x.pass(7);
            Edges.due("lapsed", FineScrip.NONE, x.diggerOf(0, 2));
        });
        Edges.test("19: the constant NONE", () -> Edges.due("NONE", -1, FineScrip.NONE));
        Edges.test("19: so far (also with a claim that is gone)", () -> {
            FineScrip x = Edges.evenCamp(1);
            x.set(2, 10);
            x.weigh(0, 100);
            x.melt();
            x.leave(0);
            x.pass(30);
            long[] want = {90, 0, -1, 100, 80, 90, 10, 0, 1};
            for (int what = 0; what <= 8; what++) {
                Edges.due("what " + what, want[what], x.diggerOf(0, what));
            }
        });
        Edges.test("19: 8: more than the worth of what is fine", () -> {
            Edges.due("one cent less", 0, loss(-1).diggerOf(0, 8));
            Edges.due("just as much", 0, loss(0).diggerOf(0, 8));
            Edges.due("one cent more", 1, loss(1).diggerOf(0, 8));
            FineScrip x = new FineScrip();
            x.digger();
            Edges.due("nothing was weighed in", 0, x.diggerOf(0, 8));
        });
        Edges.test("19: 8: what was paid and the fees together", () -> {
            FineScrip x = Edges.evenCamp(1);
            x.vein(0, 1000);
            x.set(2, 50);
            x.weigh(0, 1000);
            Edges.due("500 and 500 are just as much", 0, x.diggerOf(0, 8));
            x.adjust(1);
            x.weigh(0, 1000);
            Edges.due("501 and 500 are more", 1, x.diggerOf(0, 8));
        });
        Edges.test("19: 8: the worth, rounded down, by setting 1 as it is", () -> {
            FineScrip x = Edges.evenCamp(1);
            x.vein(0, 750);
            x.set(1, 5);
            x.weigh(0, 4);
            // Paid 2; 3 grains are fine.
            Edges.due("worth 1.5 is 1", 1, x.diggerOf(0, 8));
            x.set(1, 6);
            Edges.due("worth 1.8 is 1", 1, x.diggerOf(0, 8));
            x.set(1, 7);
            Edges.due("worth 2.1 is 2", 0, x.diggerOf(0, 8));
        });
        Edges.test("19: 8: all together, not each weighing", () -> {
            FineScrip x = loss(5);
            x.adjust(-5);
            x.weigh(0, 1000);
            Edges.due("5 more and 5 less", 0, x.diggerOf(0, 8));
            x.adjust(1);
            x.weigh(0, 1000);
            Edges.due("and 1 more", 1, x.diggerOf(0, 8));
        });
    }

    // ---- 20

    private static void claim() {
        Edges.test("20: claim: 0 to 9; IllegalArgumentException if an argument is out of range", () -> {
            for (int claim : new int[] {-1, 10, LEAST_INT, MOST_INT}) {
                Edges.refused("claim " + claim, Edges.ARGUMENT, Edges::busy, y -> y.claim(claim, 0));
            }
            FineScrip x = new FineScrip();
            x.vein(0, 501);
            x.vein(9, 999);
            Edges.due("the first", 501, x.claim(0, 0));
            Edges.due("the last", 999, x.claim(9, 0));
        });
        Edges.test("20: what: 0 to 4; IllegalArgumentException if an argument is out of range", () -> {
            for (int what : new int[] {-1, 5, LEAST_INT, MOST_INT}) {
                Edges.refused("claim, what " + what, Edges.ARGUMENT, Edges::busy, y -> y.claim(0, what));
            }
            Edges.refused("both", Edges.ARGUMENT, Edges::busy, y -> y.claim(10, 5));
        });
        Edges.test("20: its digger, NONE without one", () -> {
            FineScrip x = Edges.evenCamp(2);
            Edges.due("the first digger", 0, x.claim(0, 1));
            Edges.due("the second digger", 1, x.claim(1, 1));
            Edges.due("never taken", FineScrip.NONE, x.claim(9, 1));
            x.leave(1);
            Edges.due("left", FineScrip.NONE, x.claim(1, 1));
            x.pass(7);
            Edges.due("lapsed", FineScrip.NONE, x.claim(0, 1));
        });
        Edges.test("20: days that it counts (as they became when a day went by last)", () -> {
            FineScrip x = Edges.evenCamp(1);
            Edges.due("none went by", 0, x.claim(0, 2));
            x.pass(4);
            Edges.due("four", 4, x.claim(0, 2));
            x.weigh(0, 5);
            Edges.due("weighed in, but no day went by", 4, x.claim(0, 2));
            x.pass(1);
            Edges.due("one went by", 0, x.claim(0, 2));
        });
        Edges.test("20: days that it counts, 0 without a digger", () -> {
            FineScrip x = Edges.evenCamp(2);
            x.pass(4);
            x.leave(0);
            Edges.due("left", 0, x.claim(0, 2));
            x.pass(1);
            Edges.due("and a day went by", 0, x.claim(0, 2));
            Edges.due("the other", 5, x.claim(1, 2));
            x.pass(2);
            Edges.due("lapsed", 0, x.claim(1, 2));
            x.pass(1);
            Edges.due("lapsed, and a day went by", 0, x.claim(1, 2));
        });
        Edges.test("20: grains weighed in from it so far (by whomever)", () -> {
            FineScrip x = Edges.evenCamp(2);
            x.weigh(0, 9999);
            x.weigh(1, 5);
            x.leave(0);
            Edges.due("left", 9999, x.claim(0, 3));
            x.leave(1);
            x.stake(1, 0);
            Edges.due("taken by another one", 9999, x.claim(0, 3));
            x.weigh(1, 2);
            Edges.due("both", 10001, x.claim(0, 3));
            x.melt();
            x.pass(7);
            Edges.due("lapsed", 10001, x.claim(0, 3));
            Edges.due("the other claim", 5, x.claim(1, 3));
        });
        Edges.test("20: how often it lapsed so far", () -> {
            FineScrip x = Edges.evenCamp(1);
            Edges.due("never", 0, x.claim(0, 4));
            x.pass(6);
            x.leave(0);
            x.pass(1);
            Edges.due("who leaves lets nothing lapse", 0, x.claim(0, 4));
            for (int i = 1; i <= 3; i++) {
                x.stake(0, 0);
                x.pass(30);
                Edges.due("lapsed", i, x.claim(0, 4));
            }
            Edges.due("another claim", 0, x.claim(1, 4));
        });
    }

    // ---- 21

    private static void bar() {
        Edges.test("21: Throws IndexOutOfBoundsException if there is no such bar", () -> {
            for (int bar : new int[] {-1, 1, 12, LEAST_INT, MOST_INT}) {
                Edges.refused("bar " + bar, Edges.INDEX, Edges::busy, y -> y.bar(bar, 0));
            }
            Edges.refused("no bars", Edges.INDEX, FineScripEdgesOfLooks::nothing, y -> y.bar(0, 0));
            FineScrip x = Edges.evenCamp(1);
            for (int i = 0; i < 12; i++) {
                x.weigh(0, i + 1);
                Edges.refusedHere("not yet " + i, Edges.INDEX, x, y -> y.bar(y.count(5), 0));
                x.melt();
                Edges.due("the last one", i + 1, x.bar(i, 0));
            }
            Edges.refusedHere("the bar 12", Edges.INDEX, x, y -> y.bar(12, 0));
            x.undo();
            Edges.refusedHere("one that is undone", Edges.INDEX, x, y -> y.bar(11, 0));
        });
        Edges.test("21: Throws IllegalArgumentException if what is not 0 to 4", () -> {
            for (int what : new int[] {-1, 5, LEAST_INT, MOST_INT}) {
                Edges.refused("bar, what " + what, Edges.ARGUMENT, Edges::busy, y -> y.bar(0, what));
            }
        });
        Edges.test("21: the exception that is named first is thrown", () -> {
            Edges.refused("no bar, what 5", Edges.INDEX, Edges::busy, y -> y.bar(1, 5));
            Edges.refused("no bar, what -1", Edges.INDEX, FineScripEdgesOfLooks::nothing, y -> y.bar(0, -1));
        });
        Edges.test("21: its fineness: 1000 times what is fine, divided by its weight", () -> {
            FineScrip x = Edges.evenCamp(1);
            x.vein(0, 999);
            x.weigh(0, 1);
            x.melt();
            Edges.due("nothing is fine", 0, x.bar(0, 2));
            x.weigh(0, 1000);
            x.melt();
            Edges.due("just so fine", 999, x.bar(1, 2));
            x.weigh(0, 1001);
            x.melt();
            Edges.due("998.00..", 998, x.bar(2, 2));
            x.vein(0, 1000);
            x.weigh(0, 9999);
            x.melt();
            Edges.due("all is fine", 1000, x.bar(3, 2));
        });
        Edges.test("21: 3: the prices, 4: its worth by setting 1 as it is now", () -> {
            FineScrip x = Edges.evenCamp(1);
            x.vein(0, 1000);
            x.weigh(0, 101);
            x.melt();
            int[] cents = {1, 10, 999};
            int[] worths = {10, 101, 10089};
            for (int i = 0; i < cents.length; i++) {
                x.set(1, cents[i]);
                Edges.due("worth", worths[i], x.bar(0, 4));
                Edges.due("prices", 101, x.bar(0, 3));
            }
            x.vein(0, 500);
            Edges.due("what is fine stays", 101, x.bar(0, 1));
        });
    }

    // ---- 22, 23

    private static void counts(String what, FineScrip x, long[] want) {
        for (int i = 0; i <= 16; i++) {
            Edges.due(what + ", count " + i, want[i], x.count(i));
        }
    }

    private static void count() {
        Edges.test("22: Throws IllegalArgumentException if what is not 0 to 16", () -> {
            for (int what : new int[] {-1, 17, LEAST_INT, MOST_INT}) {
                Edges.refused("count " + what, Edges.ARGUMENT, Edges::busy, y -> y.count(what));
            }
        });
        Edges.test("22: the numbers at first", () ->
            counts("new", new FineScrip(), new long[] {0, 0, 0, 0, 0, 0, 50, 0, 0, 0, 0, 0, 0, 0, 0, 0, 0}));
        Edges.test("22: the numbers of a camp with bars, a lot and debts", () -> {
            FineScrip x = Edges.evenCamp(3);
            x.set(2, 10);
            x.weigh(0, 1000);
            x.melt();
            x.weigh(1, 500);
            x.buy(0, 1000);
            x.buy(2, 40);
            x.weigh(0, 100);
            x.adjust(3);
            x.leave(2);
            x.pass(2);
            // The digger 0: 900, goods for 1000, 90 of which 45 go to the debt of 100.
            counts("camp", x, new long[] {2, 3, 2, 600, 480, 1, 53, 0, 450 + 45, 55 + 40, 1440, 160, 1040, 1280, 1280,
                1440, 6});
        });
        Edges.test("22: 1, 2: diggers and claims with diggers, the most", () -> {
            FineScrip x = Edges.evenCamp(8);
            Edges.due("diggers", 8, x.count(1));
            Edges.due("claims", 8, x.count(2));
            x.pass(30);
            Edges.due("diggers", 8, x.count(1));
            Edges.due("claims", 0, x.count(2));
        });
        Edges.test("22: 6: the error of the scale, plus 50", () -> {
            FineScrip x = new FineScrip();
            x.adjust(-50);
            Edges.due("the least", 0, x.count(6));
            x.adjust(50);
            Edges.due("the most", 100, x.count(6));
        });
        Edges.test("22: 7: weighings since it was set right", () -> {
            FineScrip x = Edges.evenCamp(1);
            x.weigh(0, 1);
            x.weigh(0, 1);
            Edges.due("since the beginning", 2, x.count(7));
            x.adjust(0);
            Edges.due("set", 0, x.count(7));
            x.weigh(0, 1);
            Edges.due("since", 1, x.count(7));
        });
        Edges.test("22: 9: all debts, the most", () -> {
            FineScrip x = Edges.evenCamp(8);
            for (int i = 0; i < 8; i++) {
                x.buy(i, 5000);
            }
            Edges.due("debts", 40000, x.count(9));
            Edges.due("scrip", 0, x.count(8));
            Edges.due("goods", 40000, x.count(12));
            Edges.due("paid, told in another way", 0, x.count(15));
        });
        Edges.test("22: 13: what is fine of the lot and all bars; 14: the same, told by diggers", () -> {
            FineScrip x = Edges.evenCamp(2);
            x.vein(0, 501);
            x.vein(1, 999);
            int fine = 0;
            for (int i = 0; i < 12; i++) {
                x.weigh(i % 2, 11 + i);
                fine += (11 + i) * (i % 2 == 0 ? 501 : 999) / 1000;
                Edges.due("with a lot", fine, x.count(13));
                Edges.due("with a lot", fine, x.count(14));
                x.melt();
                Edges.due("with an empty lot", fine, x.count(13));
                Edges.due("with an empty lot", fine, x.count(14));
            }
        });
        Edges.test("22: 15: scrip and goods, less debts, which is what was paid so far", () -> {
            FineScrip x = Edges.evenCamp(2);
            int[] pays = {1, 200, 3, 9999, 77};
            int[] goods = {150, 49, 2, 5000, 4800};
            int paid = 0;
            for (int i = 0; i < 5; i++) {
                x.buy(i % 2, goods[i]);
                paid += x.weigh(i % 2, pays[i]);
                Edges.due("paid", paid, x.count(10));
                Edges.due("paid, told in another way", paid, x.count(15));
                Edges.due("by its parts", paid, x.count(8) + x.count(12) - x.count(9));
            }
        });
        Edges.test("22: 16: saved states", () -> {
            FineScrip x = new FineScrip();
            for (int i = 1; i <= 8; i++) {
                x.pass(1);
                Edges.due("behind " + i, i < 6 ? i : 6, x.count(16));
            }
            x.undo();
            Edges.due("behind an undo", 5, x.count(16));
        });
    }

    private static void setting() {
        Edges.test("23: Throws IndexOutOfBoundsException if there is no such setting", () -> {
            for (int setting : new int[] {-1, 5, LEAST_INT, MOST_INT}) {
                Edges.refused("setting " + setting, Edges.INDEX, Edges::busy, y -> y.setting(setting));
            }
        });
        Edges.test("23: Returns its value", () -> {
            FineScrip x = new FineScrip();
            for (int i = 0; i < 5; i++) {
                x.set(i, Edges.LEAST[i]);
                Edges.due("the least of " + i, Edges.LEAST[i], x.setting(i));
                x.set(i, Edges.MOST[i] - 1);
            }
            for (int i = 0; i < 5; i++) {
                Edges.due("setting " + i, Edges.MOST[i] - 1, x.setting(i));
            }
        });
    }

    // ---- 24, 25

    private static void ifWeighed() {
        Edges.test("24: grains: 1 to 9999; IllegalArgumentException if an argument is out of range", () -> {
            for (int grains : NO_AMOUNTS) {
                Edges.refused("ifWeighed " + grains, Edges.ARGUMENT, Edges::busy, y -> y.ifWeighed(grains, 0));
            }
            FineScrip x = new FineScrip();
            Edges.due("the least", 1, x.ifWeighed(1, 2));
            Edges.due("the most", 9999, x.ifWeighed(9999, 2));
        });
        Edges.test("24: what: 0 to 2; IllegalArgumentException if an argument is out of range", () -> {
            for (int what : new int[] {-1, 3, LEAST_INT, MOST_INT}) {
                Edges.refused("ifWeighed, what " + what, Edges.ARGUMENT, Edges::busy, y -> y.ifWeighed(1, what));
            }
            FineScrip x = new FineScrip();
            Edges.due("what is paid", 2212, x.ifWeighed(777, 0));
            Edges.due("the fee", 116, x.ifWeighed(777, 1));
            Edges.due("the weight as told", 777, x.ifWeighed(777, 2));
        });
        Edges.test("24: now (it is what weigh() pays then)", () -> {
            FineScrip x = Edges.made(Edges::busy);
            x.set(4, 1);
            for (int grains : new int[] {1, 2, 19, 20, 777, 9998, 9999}) {
                int fees = x.count(11);
                long pay = x.ifWeighed(grains, 0);
                long fee = x.ifWeighed(grains, 1);
                Edges.due("paid for " + grains, pay, x.weigh(1, grains));
                Edges.due("the fee of " + grains, fee, x.count(11) - fees);
            }
        });
        Edges.test("24: by anybody (without diggers, with a full lot)", () -> {
            FineScrip x = new FineScrip();
            Edges.evenCents(x);
            Edges.due("without diggers", 9999, x.ifWeighed(9999, 0));
            FineScrip full = Edges.evenCamp(1);
            for (int i = 0; i < 10; i++) {
                full.weigh(0, 9999);
            }
            full.weigh(0, 9);
            full.adjust(0);
            Edges.due("with a full lot", 9999, full.ifWeighed(9999, 0));
        });
        Edges.test("24: the most and the least", () -> {
            FineScrip x = new FineScrip();
            x.set(0, 1000);
            x.set(1, 999);
            x.set(2, 50);
            x.adjust(50);
            Edges.due("told", 10498, x.ifWeighed(9999, 2));
            Edges.due("the fee", 524375, x.ifWeighed(9999, 1));
            Edges.due("paid", 524375, x.ifWeighed(9999, 0));
            x.set(2, 0);
            Edges.due("paid without a fee", 1048750, x.ifWeighed(9999, 0));
            x.set(0, 500);
            x.set(1, 1);
            x.adjust(-50);
            // Told 9499, fine 4749.
            Edges.due("paid", 474, x.ifWeighed(9999, 0));
            Edges.due("nothing for 21", 0, x.ifWeighed(21, 0));
            // Told 20, fine 10.
            Edges.due("a cent for 22", 1, x.ifWeighed(22, 0));
            Edges.due("told as 0", 0, x.ifWeighed(1, 2));
        });
    }

    private static void grainsFor() {
        Edges.test("25: cents: 1 to 9999; IllegalArgumentException if cents is out of range", () -> {
            for (int cents : NO_AMOUNTS) {
                Edges.refused("grainsFor " + cents, Edges.ARGUMENT, Edges::busy, y -> y.grainsFor(cents));
            }
            FineScrip x = new FineScrip();
            Edges.due("the least", 2, x.grainsFor(1));
            Edges.due("the most", 3510, x.grainsFor(9999));
        });
        Edges.test("25: the fewest grains, 1 to 9999, for which at least so much would be paid (1)", () -> {
            FineScrip x = new FineScrip();
            x.set(0, 1000);
            x.set(1, 999);
            x.set(2, 0);
            Edges.due("99 cents", 1, x.grainsFor(99));
            Edges.due("1 cent", 1, x.grainsFor(1));
            Edges.due("100 cents", 2, x.grainsFor(100));
            x.adjust(-50);
            Edges.due("one grain is told as 0", 2, x.grainsFor(1));
        });
        Edges.test("25: the fewest grains, 1 to 9999, for which at least so much would be paid (9999)", () -> {
            FineScrip x = new FineScrip();
            Edges.evenCents(x);
            Edges.due("9998 cents", 9998, x.grainsFor(9998));
            Edges.due("9999 cents", 9999, x.grainsFor(9999));
            x.adjust(-1);
            Edges.due("9988 cents", 9998, x.grainsFor(9988));
            Edges.due("9989 cents", 9999, x.grainsFor(9989));
            Edges.due("NONE", FineScrip.NONE, x.grainsFor(9990));
        });
        Edges.test("25: at least so much (just so much, and where the pay leaps over it)", () -> {
            FineScrip x = new FineScrip();
            x.set(2, 0);
            // Paid in steps of 4 cents: 2 grains 4, 3 grains 8, 4 grains 12, 5 grains 12, 6 grains 16.
            int[] cents = {1, 4, 5, 8, 9, 12, 13, 16};
            int[] grains = {2, 2, 3, 3, 4, 4, 6, 6};
            for (int i = 0; i < cents.length; i++) {
                Edges.due("grains for " + cents[i], grains[i], x.grainsFor(cents[i]));
            }
        });
        Edges.test("25: would be paid (less the fee)", () -> {
            FineScrip x = new FineScrip();
            Edges.evenCents(x);
            x.set(2, 50);
            Edges.due("one grain pays 1", 1, x.grainsFor(1));
            Edges.due("two grains pay 1, three 2", 3, x.grainsFor(2));
            Edges.due("4999 cents", 9997, x.grainsFor(4999));
            Edges.due("5000 cents", 9999, x.grainsFor(5000));
            Edges.due("5001 cents", FineScrip.NONE, x.grainsFor(5001));
        });
        Edges.test("25: NONE if there are none", () -> {
            FineScrip x = new FineScrip();
            x.set(0, 500);
            x.set(1, 1);
            x.set(2, 0);
            Edges.due("499 cents", 9980, x.grainsFor(499));
            Edges.due("500 cents", FineScrip.NONE, x.grainsFor(500));
            Edges.due("9999 cents", FineScrip.NONE, x.grainsFor(9999));
        });
        Edges.test("25: each number of grains, 1 to 9999", () -> {
            FineScrip x = new FineScrip();
            for (int cents = 1; cents <= 9999; cents++) {
                if (cents % 500 == 1) {
                    x = new FineScrip();
                    Edges.evenCents(x);
                }
                Edges.due("grains for " + cents, cents, x.grainsFor(cents));
            }
        });
        Edges.test("25: now (as the scale and the settings are)", () -> {
            int[][] settings = {{500, 1, 50}, {1000, 999, 0}, {750, 40, 5}, {613, 13, 7}, {500, 2, 0}, {1000, 10, 49}};
            for (int[] values : settings) {
                for (int error : new int[] {-50, -7, 0, 50}) {
                    fewestGrains(values, error);
                }
            }
        });
    }

    private static void fewestGrains(int[] values, int error) {
        FineScrip x = new FineScrip();
        for (int i = 0; i < 3; i++) {
            x.set(i, values[i]);
        }
        x.adjust(error);
        int most = pay(9999, values, error);
        for (int cents : new int[] {1, 2, 3, 50, 100, 237, 1000, most - 1, most, most + 1, 9999}) {
            if (cents >= 1 && cents <= 9999) {
                int want = 1;
                while (want <= 9999 && pay(want, values, error) < cents) {
                    want++;
                }
                Edges.due("grains for " + cents + " by " + values[0] + ", " + values[1] + ", " + values[2] + ", " + error,
                    want <= 9999 ? want : FineScrip.NONE, x.grainsFor(cents));
            }
        }
    }

    private static int pay(int grains, int[] values, int error) {
        int price = grains * (1000 + error) / 1000 * values[0] / 1000 * values[1] / 10;
        return price - values[2] * price / 100;
    }

    // ---- 26, 27

    private static void worst() {
        Edges.test("26: NONE if it is above 0 with none", () -> {
            Edges.due("without diggers", FineScrip.NONE, new FineScrip().worst());
            Edges.due("nothing was weighed in", FineScrip.NONE, Edges.evenCamp(8).worst());
            Edges.due("one cent below", FineScrip.NONE, loss(-1).worst());
            Edges.due("just 0", FineScrip.NONE, loss(0).worst());
            Edges.due("one cent above", 0, loss(1).worst());
        });
        Edges.test("26: is the greatest", () -> {
            FineScrip x = Edges.evenCamp(8);
            for (int i = 0; i < 8; i++) {
                x.weigh(i, 1000 + 5 * i);
            }
            // 800 of 1000 are fine: the store loses 200, and 1 more with each of them.
            Edges.due("the last", 7, x.worst());
            x.adjust(0);
            x.weigh(0, 40);
            Edges.due("the first", 0, x.worst());
        });
        Edges.test("26: of several the lowest", () -> {
            FineScrip x = Edges.evenCamp(4);
            x.weigh(3, 100);
            Edges.due("one", 3, x.worst());
            x.weigh(2, 100);
            Edges.due("two", 2, x.worst());
            x.weigh(1, 99);
            x.weigh(0, 98);
            // 99 grains of 800: 79 are fine, 20 are lost; 98: 78 and 20.
            Edges.due("four", 0, x.worst());
            x.weigh(2, 5);
            Edges.due("one cent more", 2, x.worst());
        });
        Edges.test("26: what was paid and the fees, less the worth (as told for diggerOf() with 8)", () -> {
            FineScrip x = Edges.evenCamp(2);
            x.vein(0, 1000);
            x.vein(1, 999);
            x.set(2, 50);
            x.weigh(0, 5000);
            x.weigh(1, 1000);
            Edges.due("by whom the store lost", 1, x.worst());
            Edges.due("told so", 1, x.diggerOf(1, 8));
            Edges.due("told not so", 0, x.diggerOf(0, 8));
            x.set(1, 11);
            Edges.due("by setting 1 as it is", FineScrip.NONE, x.worst());
            x.set(1, 9);
            Edges.due("by setting 1 as it is", 0, x.worst());
        });
        Edges.test("26: also one whose claim is gone", () -> {
            FineScrip x = loss(1);
            x.leave(0);
            Edges.due("left", 0, x.worst());
        });
    }

    private static void safeFineness() {
        Edges.test("27: NONE if no claim has a digger", () -> {
            FineScrip x = new FineScrip();
            Edges.due("new", FineScrip.NONE, x.safeFineness());
            x.digger();
            Edges.due("a digger without a claim", FineScrip.NONE, x.safeFineness());
            x.stake(0, 0);
            Edges.due("a claim with a digger", 800, x.safeFineness());
            x.leave(0);
            Edges.due("left", FineScrip.NONE, x.safeFineness());
            x.stake(0, 1);
            x.pass(7);
            Edges.due("lapsed", FineScrip.NONE, x.safeFineness());
        });
        Edges.test("27: NONE if there is no such setting", () -> {
            FineScrip x = Edges.evenCamp(1);
            x.vein(0, 500);
            Edges.due("500 for 500", 500, x.safeFineness());
            x.adjust(1);
            Edges.due("500.5 is 500", 500, x.safeFineness());
            x.adjust(2);
            Edges.due("501", FineScrip.NONE, x.safeFineness());
            x.vein(0, 501);
            Edges.due("501 for 501", 500, x.safeFineness());
            x.vein(0, 525);
            x.adjust(50);
            Edges.due("525 for 525", 500, x.safeFineness());
            x.vein(0, 524);
            Edges.due("525 for 524", FineScrip.NONE, x.safeFineness());
        });
        Edges.test("27: the greatest setting 0, 500 to 1000", () -> {
            FineScrip x = Edges.evenCamp(1);
            x.vein(0, 1000);
            Edges.due("1000", 1000, x.safeFineness());
            x.vein(0, 999);
            Edges.due("999", 999, x.safeFineness());
            x.adjust(-50);
            Edges.due("not above 1000", 1000, x.safeFineness());
            x.vein(0, 950);
            Edges.due("950 for 1000 told less", 1000, x.safeFineness());
            x.vein(0, 949);
            Edges.due("949.05 is 949", 999, x.safeFineness());
        });
        Edges.test("27: each setting 0, 500 to 1000", () -> {
            FineScrip x = new FineScrip();
            for (int fineness = 500; fineness <= 1000; fineness++) {
                if (fineness % 200 == 100) {
                    x = Edges.evenCamp(1);
                }
                x.vein(0, fineness);
                Edges.due("for " + fineness, fineness, x.safeFineness());
            }
        });
        Edges.test("27: at most the worth (in cents, rounded down)", () -> {
            FineScrip x = Edges.evenCamp(1);
            x.set(1, 1);
            // The worth of 800 to 809 is 80.
            Edges.due("just so much", 809, x.safeFineness());
            x.vein(0, 809);
            Edges.due("just so much", 809, x.safeFineness());
            x.vein(0, 810);
            Edges.due("one cent more", 819, x.safeFineness());
            x.vein(0, 995);
            Edges.due("none above 1000", 999, x.safeFineness());
        });
        Edges.test("27: the claim with the least fineness that has a digger", () -> {
            FineScrip x = Edges.evenCamp(3);
            x.vein(0, 700);
            x.vein(1, 600);
            x.vein(2, 650);
            x.vein(9, 500);
            Edges.due("the least", 600, x.safeFineness());
            x.leave(1);
            Edges.due("one that is left is not asked", 650, x.safeFineness());
            x.vein(2, 700);
            Edges.due("two of the least", 700, x.safeFineness());
            x.stake(1, 9);
            Edges.due("a new one", 500, x.safeFineness());
        });
        Edges.test("27: with the scale as it is, whatever the fee and setting 0 are", () -> {
            FineScrip x = new FineScrip();
            Edges.camp(x, 1);
            for (int error : new int[] {-50, -33, -1, 0, 1, 20, 50}) {
                for (int cents : new int[] {1, 7, 40, 999}) {
                    x.adjust(error);
                    x.set(1, cents);
                    x.set(2, error < 0 ? 0 : 50);
                    x.set(0, 500 + 9 * Math.abs(error));
                    int want = FineScrip.NONE;
                    for (int taken = 500; taken <= 1000; taken++) {
                        if ((1000 + error) * taken / 1000 * cents / 10 <= 800 * cents / 10) {
                            want = taken;
                        }
                    }
                    Edges.due("error " + error + ", cents " + cents, want, x.safeFineness());
                }
            }
        });
    }

    // ---- 28, 29

    private static void fineShare() {
        Edges.test("28: 0.0 without these", () -> {
            FineScrip x = Edges.evenCamp(1);
            Edges.dueShare("nothing was weighed in", 0.0, x.fineShare());
            x.weigh(0, 10);
            Edges.dueShare("ten grains", 0.8, x.fineShare());
            x.undo();
            Edges.dueShare("undone", 0.0, x.fineShare());
        });
        Edges.test("28: what is fine, as a double, divided by its grains", () -> {
            FineScrip x = Edges.evenCamp(1);
            x.vein(0, 999);
            x.weigh(0, 1);
            Edges.dueShare("nothing is fine", 0.0, x.fineShare());
            x.vein(0, 1000);
            x.weigh(0, 2);
            Edges.dueShare("two thirds", 2.0 / 3.0, x.fineShare());
            FineScrip all = Edges.evenCamp(1);
            all.vein(0, 1000);
            all.weigh(0, 1);
            Edges.dueShare("one grain, all is fine", 1.0, all.fineShare());
            all.weigh(0, 9999);
            Edges.dueShare("all is fine", 1.0, all.fineShare());
        });
        Edges.test("28: of all that was weighed in so far", () -> {
            FineScrip x = Edges.evenCamp(2);
            x.vein(1, 555);
            x.weigh(0, 1000);
            x.melt();
            x.leave(0);
            x.weigh(1, 301);
            x.vein(1, 1000);
            x.pass(30);
            Edges.dueShare("by both, melted and not", 967.0 / 1301.0, x.fineShare());
        });
    }

    /** The hash of the document, reckoned from the looks. */
    private static long hashOf(FineScrip x, int slot0, int slot1, String text) {
        long hash = 3119;
        for (int what = 0; what <= 16; what++) {
            hash = 31 * hash + x.count(what);
        }
        for (int i = 0; i < 5; i++) {
            hash = 31 * hash + x.setting(i);
        }
        for (int i = 0; i < x.count(1); i++) {
            for (int what = 0; what <= 8; what++) {
                hash = 31 * hash + x.diggerOf(i, what);
            }
        }
        for (int i = 0; i < 10; i++) {
            for (int what = 0; what <= 4; what++) {
                hash = 31 * hash + x.claim(i, what);
            }
        }
        for (int i = 0; i < x.count(5); i++) {
            for (int what = 0; what <= 4; what++) {
                hash = 31 * hash + x.bar(i, what);
            }
        }
        hash = 31 * hash + x.ifWeighed(777, 0);
        hash = 31 * hash + x.ifWeighed(777, 1);
        hash = 31 * hash + x.ifWeighed(777, 2);
        hash = 31 * hash + x.grainsFor(100);
        hash = 31 * hash + x.worst();
        hash = 31 * hash + x.safeFineness();
        hash = 31 * hash + Double.doubleToLongBits(x.fineShare());
        hash = 31 * hash + slot0;
        hash = 31 * hash + slot1;
        hash = 31 * hash + text.length();
        for (int i = 0; i < text.length(); i++) {
            hash = 31 * hash + text.charAt(i);
        }
        return hash;
    }

    private static void digest() {
        Edges.test("29: a new object (no diggers, no bars, no share, no slots, no text)", () -> {
            FineScrip x = new FineScrip();
            Edges.due("digest", hashOf(x, 0, 0, ""), x.digest());
        });
        Edges.test("29: the most diggers and bars", () -> {
            FineScrip x = Edges.evenCamp(8);
            for (int i = 0; i < 12; i++) {
                x.weigh(i % 8, 100 + i);
                x.melt();
            }
            x.weigh(3, 5);
            Edges.due("digest", hashOf(x, 0, 0, ""), x.digest());
        });
        Edges.test("29: for each slot 1 if it has a snapshot, otherwise 0", () -> {
            for (int kept = 0; kept < 4; kept++) {
                FineScrip x = new FineScrip();
                if (kept % 2 == 1) {
                    x.keep(0);
                }
                if (kept >= 2) {
                    x.keep(1);
                }
                Edges.due("digest with " + kept, hashOf(x, kept % 2, kept / 2, ""), x.digest());
            }
        });
        Edges.test("29: the length of the buffer and each of its character codes", () -> {
            String[] texts = {"", "!", "~", "0w5;m", Edges.repeated("~!", 30)};
            for (String text : texts) {
                FineScrip x = new FineScrip();
                Edges.write(x, text);
                Edges.due("digest with " + text, hashOf(x, 0, 0, text), x.digest());
            }
            FineScrip x = new FineScrip();
            Edges.write(x, "0w5");
            x.clearBuffer();
            Edges.due("cleared", hashOf(x, 0, 0, ""), x.digest());
        });
        Edges.test("29: the bits of fineShare, from 0.0 to 1.0", () -> {
            FineScrip none = Edges.evenCamp(1);
            none.weigh(0, 1);
            Edges.due("0.0 with grains", hashOf(none, 0, 0, ""), none.digest());
            FineScrip all = Edges.evenCamp(1);
            all.vein(0, 1000);
            all.weigh(0, 3);
            Edges.due("1.0", hashOf(all, 0, 0, ""), all.digest());
            for (int fineness = 500; fineness <= 1000; fineness += 7) {
                FineScrip x = Edges.evenCamp(1);
                x.vein(0, fineness);
                x.weigh(0, 9999);
                Edges.due("share " + x.fineShare(), hashOf(x, 0, 0, ""), x.digest());
                x.weigh(0, 1);
                Edges.due("share " + x.fineShare(), hashOf(x, 0, 0, ""), x.digest());
            }
        });
        Edges.test("29: a share of few fine grains of many", () -> {
            FineScrip x = Edges.evenCamp(1);
            x.weigh(0, 2);
            for (int grains = 3; grains <= 160; grains++) {
                x.weigh(0, 1);
                if (grains % 80 == 0) {
                    Edges.due("share " + x.fineShare(), hashOf(x, 0, 0, ""), x.digest());
                }
            }
        });
        Edges.test("29: NONE among the values", () -> {
            FineScrip x = new FineScrip();
            x.digger();
            x.set(1, 1);
            x.set(0, 500);
            Edges.due("no claims, no worst", hashOf(x, 0, 0, ""), x.digest());
            Edges.due("worst", FineScrip.NONE, x.worst());
            Edges.due("safeFineness", FineScrip.NONE, x.safeFineness());
        });
        Edges.test("29: also behind undo(), goBack() and live()", () -> {
            FineScrip x = Edges.made(Edges::busy);
            Edges.due("busy", hashOf(x, 1, 1, Edges.BUSY_TEXT), x.digest());
            x.live();
            Edges.due("live", hashOf(x, 1, 1, ""), x.digest());
            FineScrip y = Edges.made(Edges::busy);
            y.undo();
            Edges.due("undo", hashOf(y, 1, 1, Edges.BUSY_TEXT), y.digest());
            FineScrip z = Edges.made(Edges::busy);
            z.goBack(0);
            Edges.due("goBack", hashOf(z, 1, 1, Edges.BUSY_TEXT), z.digest());
        });
        Edges.test("29: with overflow (the same state has the same hash, another one another)", () -> {
            FineScrip x = Edges.made(Edges::busy);
            FineScrip y = Edges.made(Edges::busy);
            Edges.due("the same", x.digest(), y.digest());
            long before = y.digest();
            y.vein(9, 801);
            Edges.due("another one", 1, y.digest() == before ? 0 : 1);
        });
    }

    private static void nothingIsChanged() {
        Edges.test("19 to 23: looks; nothing is changed", () -> {
            for (int what = 0; what <= 16; what++) {
                int looked = what;
                Edges.changesNothing("count " + what, Edges::busy, y -> y.count(looked));
            }
            for (int what = 0; what <= 8; what++) {
                int looked = what;
                Edges.changesNothing("diggerOf " + what, Edges::busy, y -> y.diggerOf(1, looked));
            }
            for (int what = 0; what <= 4; what++) {
                int looked = what;
                Edges.changesNothing("claim " + what, Edges::busy, y -> y.claim(1, looked));
                Edges.changesNothing("bar " + what, Edges::busy, y -> y.bar(0, looked));
                Edges.changesNothing("setting " + what, Edges::busy, y -> y.setting(looked));
            }
        });
        Edges.test("24 to 29: what would be; nothing is changed", () -> {
            for (int what = 0; what <= 2; what++) {
                int looked = what;
                Edges.changesNothing("ifWeighed " + what, Edges::busy, y -> y.ifWeighed(9999, looked));
            }
            Edges.changesNothing("grainsFor", Edges::busy, y -> y.grainsFor(9999));
            Edges.changesNothing("worst", Edges::busy, FineScrip::worst);
            Edges.changesNothing("safeFineness", Edges::busy, FineScrip::safeFineness);
            Edges.changesNothing("fineShare", Edges::busy, y -> (long) y.fineShare());
            Edges.changesNothing("digest", Edges::busy, FineScrip::digest);
        });
    }

    public static void main(String[] args) {
        diggerOf();
        claim();
        bar();
        count();
        setting();
        ifWeighed();
        grainsFor();
        worst();
        safeFineness();
        fineShare();
        digest();
        nothingIsChanged();
        Edges.end();
    }
}
