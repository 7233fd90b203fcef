/** The boundary sentences of the promises 1 to 18: each has a test of its own, on either side. */
public final class FineScripEdgesOfCalls {
    private static final int LEAST_INT = Integer.MIN_VALUE;
    private static final int MOST_INT = Integer.MAX_VALUE;
    private static final int BUSY_LOT = 333 + 50 + 21;
    // The busy camp has the diggers 0 to 2.
    private static final int[] NO_DIGGERS = {-1, 3, 7, 8, LEAST_INT, MOST_INT};
    private static final int[] NO_CLAIMS = {-1, 10, LEAST_INT, MOST_INT};
    private static final int[] NO_AMOUNTS = {0, -1, 10000, LEAST_INT, MOST_INT};
    private static final int[] NO_SLOTS = {-1, 2, LEAST_INT, MOST_INT};

    private static void nothing(FineScrip x) {
        // The object stays as it is.
    }

    // ---- 1

    private static void newObject() {
        Edges.test("1: Creates a camp without diggers", () -> {
            FineScrip x = new FineScrip();
            Edges.due("diggers", 0, x.count(1));
            Edges.refused("the first", Edges.INDEX, FineScripEdgesOfCalls::nothing, y -> y.diggerOf(0, 0));
            Edges.due("the first comes", 0, x.digger());
        });
        Edges.test("1: at the day 0", () -> {
            FineScrip x = new FineScrip();
            Edges.due("day", 0, x.count(0));
            Edges.due("day", 0, x.keep(0));
        });
        Edges.test("1: with empty slots", () -> {
            for (int slot = 0; slot < 2; slot++) {
                int empty = slot;
                Edges.refused("slot " + slot, Edges.STATE, FineScripEdgesOfCalls::nothing, y -> y.goBack(empty));
            }
        });
        Edges.test("1: and an empty buffer", () -> {
            FineScrip x = new FineScrip();
            Edges.due("firstError", 0, x.firstError());
            Edges.due("length", 0, x.clearBuffer());
            Edges.due("append", 1, x.append('n'));
        });
        Edges.test("1: a new object has no saved states, all that is counted is 0", () -> {
            Edges.refused("undo", Edges.STATE, FineScripEdgesOfCalls::nothing, FineScrip::undo);
            FineScrip x = new FineScrip();
            for (int what = 0; what <= 16; what++) {
                Edges.due("count " + what, what == 6 ? 50 : 0, x.count(what));
            }
        });
        Edges.test("1: a new object is new, whatever others did; and they stay as they are", () -> {
            FineScrip other = new FineScrip();
            long fresh = other.digest();
            Edges.busy(other);
            long before = other.digest();
            FineScrip x = new FineScrip();
            Edges.due("the new one", fresh, x.digest());
            x.digger();
            x.vein(1, 500);
            x.set(0, 500);
            x.append('x');
            x.keep(0);
            Edges.due("the other one", before, other.digest());
        });
    }

    // ---- 2

    private static void eight(FineScrip x) {
        Edges.busy(x);
        for (int i = 3; i < 8; i++) {
            x.digger();
        }
    }

    private static void digger() {
        Edges.test("2: Returns the number", () -> {
            FineScrip x = new FineScrip();
            for (int i = 0; i < 8; i++) {
                Edges.due("digger", i, x.digger());
                Edges.due("diggers", i + 1, x.count(1));
            }
        });
        Edges.test("2: Throws IllegalStateException if there are 8", () -> {
            Edges.refused("the ninth", Edges.STATE, FineScripEdgesOfCalls::eight, FineScrip::digger);
            FineScrip x = Edges.made(FineScripEdgesOfCalls::eight);
            x.undo();
            Edges.due("the eighth", 7, x.digger());
            Edges.refusedHere("the ninth", Edges.STATE, x, FineScrip::digger);
        });
        Edges.test("2: Undoable", () -> {
            Edges.undoable("the first", FineScripEdgesOfCalls::nothing, FineScrip::digger);
            Edges.undoable("the fourth", Edges::busy, FineScrip::digger);
        });
    }

    // ---- 3

    private static void stake() {
        Edges.test("3: Returns how many claims have diggers then", () -> {
            FineScrip x = new FineScrip();
            for (int i = 0; i < 8; i++) {
                x.digger();
                Edges.due("stake", i + 1, x.stake(i, 9 - i));
            }
            x.leave(3);
            Edges.due("behind a leave", 8, x.stake(3, 0));
            x.pass(7);
            Edges.due("behind lapses", 1, x.stake(3, 0));
        });
        Edges.test("3: Throws IndexOutOfBoundsException if there is no such digger", () -> {
            for (int digger : NO_DIGGERS) {
                Edges.refused("stake of " + digger, Edges.INDEX, Edges::busy, y -> y.stake(digger, 5));
            }
            Edges.refused("of nobody", Edges.INDEX, FineScripEdgesOfCalls::nothing, y -> y.stake(0, 0));
            Edges.due("the last digger", 3, Edges.made(Edges::busy).stake(2, 5));
        });
        Edges.test("3: Throws IllegalArgumentException if claim is out of range", () -> {
            for (int claim : NO_CLAIMS) {
                Edges.refused("stake at " + claim, Edges.ARGUMENT, Edges::busy, y -> y.stake(2, claim));
            }
            FineScrip x = new FineScrip();
            x.digger();
            x.digger();
            Edges.due("the first claim", 1, x.stake(0, 0));
            Edges.due("the last claim", 2, x.stake(1, 9));
        });
        Edges.test("3: Throws IllegalStateException if the digger has a claim", () -> {
            Edges.refused("another claim", Edges.STATE, Edges::busy, y -> y.stake(0, 5));
            Edges.refused("the own claim", Edges.STATE, Edges::busy, y -> y.stake(0, 0));
            FineScrip x = Edges.made(Edges::busy);
            x.leave(0);
            Edges.due("who left", 2, x.stake(0, 5));
        });
        Edges.test("3: Throws IllegalStateException if the claim has a digger", () -> {
            Edges.refused("the first claim", Edges.STATE, Edges::busy, y -> y.stake(2, 0));
            Edges.refused("the second claim", Edges.STATE, Edges::busy, y -> y.stake(2, 1));
            FineScrip x = Edges.made(Edges::busy);
            x.leave(0);
            Edges.due("a claim that was left", 2, x.stake(2, 0));
        });
        Edges.test("3: the exception that is named first is thrown", () -> {
            Edges.refused("no digger, no claim", Edges.INDEX, Edges::busy, y -> y.stake(3, 10));
            Edges.refused("no digger, a claim with a digger", Edges.INDEX, Edges::busy, y -> y.stake(-1, 0));
            Edges.refused("no claim, a digger with a claim", Edges.ARGUMENT, Edges::busy, y -> y.stake(0, -1));
        });
        Edges.test("3: Undoable", () -> Edges.undoable("stake", Edges::busy, y -> y.stake(2, 9)));
    }

    // ---- 4

    private static void leave() {
        Edges.test("4: Returns the claim", () -> {
            FineScrip x = new FineScrip();
            x.digger();
            for (int claim = 0; claim < 10; claim++) {
                x.stake(0, claim);
                Edges.due("leave", claim, x.leave(0));
                Edges.due("the claim's digger", -1, x.claim(claim, 1));
                Edges.due("the digger's claim", -1, x.diggerOf(0, 2));
                Edges.due("claims with diggers", 0, x.count(2));
            }
        });
        Edges.test("4: Throws IndexOutOfBoundsException if there is no such digger", () -> {
            for (int digger : NO_DIGGERS) {
                Edges.refused("leave of " + digger, Edges.INDEX, Edges::busy, y -> y.leave(digger));
            }
            Edges.refused("of nobody", Edges.INDEX, FineScripEdgesOfCalls::nothing, y -> y.leave(0));
        });
        Edges.test("4: Throws IllegalStateException if the digger has none", () -> {
            Edges.refused("who never had one", Edges.STATE, Edges::busy, y -> y.leave(2));
            Edges.refused("who left", Edges.STATE, y -> {
                Edges.busy(y);
                y.leave(1);
            }, y -> y.leave(1));
            Edges.refused("whose claim lapsed", Edges.STATE, y -> {
                Edges.busy(y);
                y.pass(30);
            }, y -> y.leave(0));
            Edges.due("who has one", 1, Edges.made(Edges::busy).leave(1));
        });
        Edges.test("4: Undoable", () -> {
            Edges.undoable("leave", Edges::busy, y -> y.leave(0));
            Edges.undoable("leave, weighed in on this day", Edges::busy, y -> y.leave(1));
        });
    }

    // ---- 5

    private static void vein() {
        Edges.test("5: Returns the previous one", () -> {
            FineScrip x = new FineScrip();
            Edges.due("at first", 800, x.vein(9, 801));
            Edges.due("then", 801, x.vein(9, 500));
            Edges.due("the same again", 500, x.vein(9, 500));
            Edges.due("another claim", 800, x.vein(8, 500));
        });
        Edges.test("5: dust in the lot stays as it is", () -> {
            FineScrip x = Edges.evenCamp(1);
            x.weigh(0, 1000);
            x.vein(0, 500);
            Edges.due("fine of the lot", 800, x.count(4));
            Edges.due("fine of the digger", 800, x.diggerOf(0, 4));
            x.weigh(0, 1000);
            Edges.due("the dust behind it", 1300, x.count(4));
            x.melt();
            x.vein(0, 1000);
            Edges.due("fine of the bar", 1300, x.bar(0, 1));
        });
        Edges.test("5: Throws IllegalArgumentException if an argument is out of range (claim)", () -> {
            for (int claim : NO_CLAIMS) {
                Edges.refused("vein of " + claim, Edges.ARGUMENT, Edges::busy, y -> y.vein(claim, 700));
            }
            FineScrip x = new FineScrip();
            Edges.due("the first", 800, x.vein(0, 700));
            Edges.due("the last", 800, x.vein(9, 701));
            Edges.due("the first", 700, x.claim(0, 0));
            Edges.due("the last", 701, x.claim(9, 0));
        });
        Edges.test("5: Throws IllegalArgumentException if an argument is out of range (fineness)", () -> {
            for (int fineness : new int[] {499, 1001, 0, -500, LEAST_INT, MOST_INT}) {
                Edges.refused("vein of " + fineness, Edges.ARGUMENT, Edges::busy, y -> y.vein(0, fineness));
            }
            FineScrip x = new FineScrip();
            x.vein(0, 500);
            Edges.due("the least", 500, x.claim(0, 0));
            x.vein(0, 1000);
            Edges.due("the most", 1000, x.claim(0, 0));
        });
        Edges.test("5: Undoable", () -> {
            Edges.undoable("vein", Edges::busy, y -> y.vein(1, 1000));
            Edges.undoable("the same fineness", Edges::busy, y -> y.vein(1, 611));
        });
    }

    // ---- 6

    /** The busy camp, its lot filled up to so many grains. */
    private static void lotOf(FineScrip x, int grains) {
        Edges.busy(x);
        int lacking = grains - BUSY_LOT;
        for (; lacking > 9999; lacking -= 9999) {
            x.weigh(1, 9999);
        }
        x.weigh(1, lacking);
    }

    private static void weigh() {
        Edges.test("6: Returns what is paid (to the scrip and the debt)", () -> {
            FineScrip x = new FineScrip();
            Edges.camp(x, 1);
            // Price 2328, fee 116.
            Edges.due("to the scrip", 2212, x.weigh(0, 777));
            Edges.due("scrip", 2212, x.diggerOf(0, 0));
            x.buy(0, 2312);
            Edges.due("to both", 2212, x.weigh(0, 777));
            Edges.due("debt", 0, x.diggerOf(0, 1));
            Edges.due("scrip", 2112, x.diggerOf(0, 0));
            Edges.due("paid", 4424, x.diggerOf(0, 5));
        });
        Edges.test("6: Returns what is paid (0 for a grain)", () -> {
            FineScrip x = new FineScrip();
            Edges.camp(x, 1);
            Edges.due("one grain", 0, x.weigh(0, 1));
            Edges.due("two grains", 4, x.weigh(0, 2));
        });
        Edges.test("6: from the own claim", () -> {
            FineScrip x = Edges.evenCamp(2);
            x.vein(0, 500);
            x.vein(1, 1000);
            x.weigh(1, 100);
            Edges.due("fine", 100, x.count(4));
            Edges.due("grains of the own claim", 100, x.claim(1, 3));
            Edges.due("grains of the other claim", 0, x.claim(0, 3));
            Edges.due("grains of the other digger", 0, x.diggerOf(0, 3));
        });
        Edges.test("6: grains: 1 to 9999; IllegalArgumentException if grains is out of range", () -> {
            for (int grains : NO_AMOUNTS) {
                Edges.refused("weigh " + grains, Edges.ARGUMENT, Edges::busy, y -> y.weigh(1, grains));
            }
            FineScrip x = Edges.evenCamp(1);
            Edges.due("the least", 1, x.weigh(0, 1));
            Edges.due("the most", 9999, x.weigh(0, 9999));
            Edges.due("the lot", 10000, x.count(3));
        });
        Edges.test("6: Throws IndexOutOfBoundsException if there is no such digger", () -> {
            for (int digger : NO_DIGGERS) {
                Edges.refused("weigh of " + digger, Edges.INDEX, Edges::busy, y -> y.weigh(digger, 5));
            }
            Edges.refused("of nobody", Edges.INDEX, FineScripEdgesOfCalls::nothing, y -> y.weigh(0, 5));
        });
        Edges.test("6: Throws IllegalStateException if the digger has no claim", () -> {
            Edges.refused("who never had one", Edges.STATE, Edges::busy, y -> y.weigh(2, 5));
            Edges.refused("who left", Edges.STATE, y -> {
                Edges.busy(y);
                y.leave(1);
            }, y -> y.weigh(1, 5));
            Edges.refused("whose claim lapsed", Edges.STATE, y -> {
                Edges.busy(y);
                y.pass(30);
            }, y -> y.weigh(1, 5));
            FineScrip x = Edges.evenCamp(1);
            x.leave(0);
            x.stake(0, 8);
            Edges.due("who has one again", 5, x.weigh(0, 5));
        });
        Edges.test("6: Throws IllegalStateException if the lot would have more than 99999 grains", () -> {
            Edges.refused("99999 and 1", Edges.STATE, y -> lotOf(y, 99999), y -> y.weigh(1, 1));
            Edges.refused("99990 and 10", Edges.STATE, y -> lotOf(y, 99990), y -> y.weigh(0, 10));
            Edges.refused("90001 and 9999", Edges.STATE, y -> lotOf(y, 90001), y -> y.weigh(0, 9999));
            FineScrip x = Edges.made(y -> lotOf(y, 90000));
            x.weigh(0, 9999);
            Edges.due("90000 and 9999", 99999, x.count(3));
            FineScrip z = Edges.made(y -> lotOf(y, 99998));
            z.weigh(0, 1);
            Edges.due("99998 and 1", 99999, z.count(3));
            z.melt();
            Edges.due("a bar of all", 99999, z.bar(1, 0));
            z.weigh(0, 9999);
            Edges.due("a new lot", 9999, z.count(3));
        });
        Edges.test("6: the true weight: it is what the lot would have", () -> {
            Edges.refused("told less, but truly too much", Edges.STATE, y -> {
                lotOf(y, 99000);
                y.adjust(-50);
            }, y -> y.weigh(0, 1000));
            FineScrip x = Edges.made(y -> lotOf(y, 99000));
            x.adjust(50);
            x.weigh(0, 999);
            Edges.due("told more, but truly not", 99999, x.count(3));
        });
        Edges.test("6: the exception that is named first is thrown", () -> {
            Edges.refused("no digger, grains 0", Edges.INDEX, Edges::busy, y -> y.weigh(3, 0));
            Edges.refused("no digger, a full lot", Edges.INDEX, y -> lotOf(y, 99999), y -> y.weigh(-1, 1));
            Edges.refused("grains 0, no claim", Edges.ARGUMENT, Edges::busy, y -> y.weigh(2, 0));
            Edges.refused("grains 10000, a full lot", Edges.ARGUMENT, y -> lotOf(y, 99999), y -> y.weigh(1, 10000));
        });
        Edges.test("6: Undoable", () -> {
            Edges.undoable("weigh", Edges::busy, y -> y.weigh(1, 777));
            Edges.undoable("the first of the day", Edges::busy, y -> y.weigh(0, 777));
            Edges.undoable("one behind which the error grows", y -> {
                Edges.busy(y);
                y.set(4, 1);
            }, y -> y.weigh(0, 1));
            Edges.undoable("one that goes to a debt", y -> {
                Edges.busy(y);
                y.stake(2, 2);
            }, y -> y.weigh(2, 50));
        });
    }

    // ---- 7

    private static FineScrip withScrip(int scrip) {
        FineScrip x = Edges.evenCamp(1);
        if (scrip > 0) {
            x.weigh(0, scrip);
        }
        return x;
    }

    private static void bought(int scrip, int cents, int scripThen, int debtThen) {
        FineScrip x = withScrip(scrip);
        String what = "goods for " + cents + " with a scrip of " + scrip;
        Edges.due(what, debtThen, x.buy(0, cents));
        Edges.due(what + ", scrip", scripThen, x.diggerOf(0, 0));
        Edges.due(what + ", debt", debtThen, x.diggerOf(0, 1));
        Edges.due(what + ", goods", cents, x.diggerOf(0, 7));
    }

    private static void owe(FineScrip x, int debt) {
        Edges.busy(x);
        x.digger();
        x.buy(3, debt);
    }

    private static void buy() {
        Edges.test("7: from the scrip, and what that lacks becomes a debt", () -> {
            bought(100, 99, 1, 0);
            bought(100, 100, 0, 0);
            bought(100, 101, 0, 1);
            bought(0, 1, 0, 1);
            bought(9999, 9999, 0, 0);
        });
        Edges.test("7: Returns the debt then", () -> {
            FineScrip x = withScrip(0);
            Edges.due("buy", 100, x.buy(0, 100));
            x.weigh(0, 50);
            Edges.due("what the scrip pays is no debt", 75, x.buy(0, 10));
            Edges.due("the scrip and a debt at once", 75 + 5, x.buy(0, 20));
            Edges.due("goods", 130, x.diggerOf(0, 7));
        });
        Edges.test("7: cents: 1 to 9999; IllegalArgumentException if cents is out of range", () -> {
            for (int cents : NO_AMOUNTS) {
                Edges.refused("buy for " + cents, Edges.ARGUMENT, Edges::busy, y -> y.buy(0, cents));
            }
            bought(5, 1, 4, 0);
            bought(5000, 9999, 0, 4999);
        });
        Edges.test("7: Throws IndexOutOfBoundsException if there is no such digger", () -> {
            for (int digger : NO_DIGGERS) {
                Edges.refused("buy of " + digger, Edges.INDEX, Edges::busy, y -> y.buy(digger, 1));
            }
            Edges.refused("of nobody", Edges.INDEX, FineScripEdgesOfCalls::nothing, y -> y.buy(0, 1));
        });
        Edges.test("7: Throws IllegalStateException if the debt would be above 5000", () -> {
            Edges.refused("5001 at once", Edges.STATE, y -> {
                Edges.busy(y);
                y.digger();
            }, y -> y.buy(3, 5001));
            Edges.refused("5000 and 1", Edges.STATE, y -> owe(y, 5000), y -> y.buy(3, 1));
            Edges.refused("4999 and 2", Edges.STATE, y -> owe(y, 4999), y -> y.buy(3, 2));
            bought(0, 5000, 0, 5000);
            FineScrip x = Edges.made(y -> owe(y, 4999));
            Edges.due("4999 and 1", 5000, x.buy(3, 1));
        });
        Edges.test("7: the debt would be above 5000 (with scrip)", () -> {
            bought(4000, 9000, 0, 5000);
            FineScrip x = withScrip(4000);
            Edges.refusedHere("4000 of scrip, 9001", Edges.STATE, x, y -> y.buy(0, 9001));
            FineScrip z = withScrip(0);
            z.buy(0, 5000);
            z.weigh(0, 10);
            // The debt is 4995 then, the scrip 5.
            Edges.refusedHere("one more than both leave", Edges.STATE, z, y -> y.buy(0, 11));
            Edges.due("all that both leave", 5000, z.buy(0, 10));
        });
        Edges.test("7: without a claim, too", () -> Edges.due("buy", 401, Edges.made(Edges::busy).buy(2, 1)));
        Edges.test("7: the exception that is named first is thrown", () -> {
            Edges.refused("no digger, cents 0", Edges.INDEX, Edges::busy, y -> y.buy(3, 0));
            Edges.refused("no digger, 5001", Edges.INDEX, Edges::busy, y -> y.buy(3, 5001));
            Edges.refused("cents 10000, above 5000", Edges.ARGUMENT, y -> owe(y, 5000), y -> y.buy(3, 10000));
        });
        Edges.test("7: Undoable", () -> {
            Edges.undoable("from the scrip", Edges::busy, y -> y.buy(0, 100));
            Edges.undoable("a debt", Edges::busy, y -> y.buy(2, 100));
            Edges.undoable("both", Edges::busy, y -> y.buy(0, 5000));
        });
    }

    // ---- 8

    /** The busy camp, which has one bar, with so many bars and a lot. */
    private static void bars(FineScrip x, int bars) {
        Edges.busy(x);
        for (int i = 1; i < bars; i++) {
            x.melt();
            x.weigh(1, 5);
        }
    }

    private static void melt() {
        Edges.test("8: Returns the number of the bar", () -> {
            FineScrip x = Edges.evenCamp(1);
            for (int i = 0; i < 12; i++) {
                x.weigh(0, 3);
                Edges.due("melt", i, x.melt());
            }
        });
        Edges.test("8: Throws IllegalStateException if the lot is empty", () -> {
            Edges.refused("nothing was weighed in", Edges.STATE, FineScripEdgesOfCalls::nothing, FineScrip::melt);
            Edges.refused("melted just now", Edges.STATE, y -> {
                Edges.busy(y);
                y.melt();
            }, FineScrip::melt);
            FineScrip x = Edges.evenCamp(1);
            x.weigh(0, 1);
            Edges.due("one grain of which nothing is fine", 0, x.melt());
            Edges.due("its weight", 1, x.bar(0, 0));
            Edges.due("what is fine", 0, x.bar(0, 1));
        });
        Edges.test("8: Throws IllegalStateException if there are 12 bars", () -> {
            Edges.refused("12 bars", Edges.STATE, y -> bars(y, 12), FineScrip::melt);
            Edges.refused("12 bars and an empty lot", Edges.STATE, y -> {
                bars(y, 12);
                y.undo();
            }, FineScrip::melt);
            Edges.due("11 bars", 11, Edges.made(y -> bars(y, 11)).melt());
        });
        Edges.test("8: Undoable", () -> {
            Edges.undoable("melt", Edges::busy, FineScrip::melt);
            Edges.undoable("the twelfth", y -> bars(y, 11), FineScrip::melt);
        });
    }

    // ---- 9

    private static void adjust() {
        Edges.test("9: Returns the size of the error that it had, without its sign", () -> {
            FineScrip x = new FineScrip();
            int[] errors = {-50, 50, -1, 1, 0, -49, 49};
            int before = 0;
            for (int error : errors) {
                Edges.due("adjust to " + error, before, x.adjust(error));
                Edges.due("error", 50 + error, x.count(6));
                before = Math.abs(error);
            }
        });
        Edges.test("9: weighings are counted anew", () -> {
            FineScrip x = Edges.evenCamp(1);
            x.set(4, 2);
            x.weigh(0, 1);
            x.adjust(0);
            Edges.due("counted", 0, x.count(7));
            x.weigh(0, 1);
            Edges.due("one since", 50, x.count(6));
            x.weigh(0, 1);
            Edges.due("two since", 51, x.count(6));
        });
        Edges.test("9: -50 to 50; Throws IllegalArgumentException if error is out of range", () -> {
            for (int error : new int[] {-51, 51, 100, LEAST_INT, MOST_INT}) {
                Edges.refused("adjust to " + error, Edges.ARGUMENT, Edges::busy, y -> y.adjust(error));
            }
            FineScrip x = new FineScrip();
            x.adjust(-50);
            Edges.due("the least", 0, x.count(6));
            x.adjust(50);
            Edges.due("the most", 100, x.count(6));
        });
        Edges.test("9: Undoable", () -> {
            Edges.undoable("adjust", Edges::busy, y -> y.adjust(-50));
            Edges.undoable("to the same error", Edges::busy, y -> y.adjust(7));
        });
    }

    // ---- 10

    /** At this day, with a claim that counts no days yet. */
    private static void atDay(FineScrip x, int day) {
        for (int i = 0; i < day / 30; i++) {
            x.pass(30);
        }
        if (day % 30 > 0) {
            x.pass(day % 30);
        }
        Edges.camp(x, 1);
        x.weigh(0, 100);
        x.keep(0);
    }

    private static void pass() {
        Edges.test("10: days: 1 to 30; Throws IllegalArgumentException if days is out of range", () -> {
            for (int days : new int[] {0, -1, 31, LEAST_INT, MOST_INT}) {
                Edges.refused("pass " + days, Edges.ARGUMENT, Edges::busy, y -> y.pass(days));
            }
            FineScrip x = new FineScrip();
            x.pass(1);
            Edges.due("the least", 1, x.count(0));
            x.pass(30);
            Edges.due("the most", 31, x.count(0));
        });
        Edges.test("10: Returns how many claims lapse in them (none)", () -> {
            Edges.due("no claim has a digger", 0, new FineScrip().pass(30));
            FineScrip x = Edges.evenCamp(8);
            Edges.due("a day too few", 0, x.pass(6));
            Edges.due("claims with diggers", 8, x.count(2));
        });
        Edges.test("10: Returns how many claims lapse in them (all, on the last of them)", () -> {
            FineScrip x = Edges.evenCamp(8);
            Edges.due("just enough days", 8, x.pass(7));
            Edges.due("claims with diggers", 0, x.count(2));
        });
        Edges.test("10: Returns how many claims lapse in them (on several of them)", () -> {
            FineScrip x = Edges.evenCamp(3);
            x.pass(2);
            x.weigh(1, 1);
            x.pass(2);
            x.weigh(2, 1);
            // The claim 0 lapses in three days, 1 in six, 2 in eight.
            Edges.due("seven days", 2, x.pass(7));
            Edges.due("one day more", 1, x.pass(1));
        });
        Edges.test("10: Returns how many claims lapse in them (each once)", () -> {
            FineScrip x = Edges.evenCamp(1);
            x.set(3, 1);
            Edges.due("thirty days", 1, x.pass(30));
            Edges.due("lapses", 1, x.claim(0, 4));
        });
        Edges.test("10: Throws IllegalStateException if the day would be above 9999", () -> {
            Edges.refused("9999 and 1", Edges.STATE, y -> atDay(y, 9999), y -> y.pass(1));
            Edges.refused("9998 and 2", Edges.STATE, y -> atDay(y, 9998), y -> y.pass(2));
            Edges.refused("9970 and 30", Edges.STATE, y -> atDay(y, 9970), y -> y.pass(30));
        });
        Edges.test("10: the day may be 9999", () -> {
            FineScrip x = Edges.made(y -> atDay(y, 9969));
            Edges.due("9969 and 30", 1, x.pass(30));
            Edges.due("the last day", 9999, x.count(0));
            FineScrip z = Edges.made(y -> atDay(y, 9998));
            Edges.due("9998 and 1", 0, z.pass(1));
            Edges.due("the last day", 9999, z.count(0));
        });
        Edges.test("10: the exception that is named first is thrown", () -> {
            Edges.refused("31 days at 9999", Edges.ARGUMENT, y -> atDay(y, 9999), y -> y.pass(31));
            Edges.refused("no days at 9999", Edges.ARGUMENT, y -> atDay(y, 9999), y -> y.pass(0));
        });
        Edges.test("10: Undoable, as one call", () -> {
            Edges.undoable("one day", Edges::busy, y -> y.pass(1));
            Edges.undoable("thirty days, claims lapse", Edges::busy, y -> y.pass(30));
            FineScrip x = new FineScrip();
            x.pass(30);
            Edges.due("saved", 1, x.count(16));
            x.undo();
            Edges.due("undone", 0, x.count(0));
        });
    }

    // ---- 11

    private static void set() {
        Edges.test("11: Returns the previous value", () -> {
            FineScrip x = new FineScrip();
            for (int i = 0; i < 5; i++) {
                Edges.due("the first one of " + i, Edges.FIRST[i], x.set(i, Edges.MOST[i]));
                Edges.due("the most of " + i, Edges.MOST[i], x.set(i, Edges.LEAST[i]));
                Edges.due("the least of " + i, Edges.LEAST[i], x.set(i, Edges.LEAST[i]));
            }
        });
        Edges.test("11: Throws IndexOutOfBoundsException if there is no such setting", () -> {
            for (int setting : new int[] {-1, 5, LEAST_INT, MOST_INT}) {
                Edges.refused("set " + setting, Edges.INDEX, Edges::busy, y -> y.set(setting, 20));
            }
            FineScrip x = new FineScrip();
            Edges.due("the first", 750, x.set(0, 751));
            Edges.due("the last", 10, x.set(4, 11));
        });
        Edges.test("11: the range of one setting is not that of another", () -> {
            Edges.refused("cents 1000", Edges.ARGUMENT, Edges::busy, y -> y.set(1, 1000));
            Edges.refused("fineness 99", Edges.ARGUMENT, Edges::busy, y -> y.set(0, 99));
            Edges.refused("days 50", Edges.ARGUMENT, Edges::busy, y -> y.set(3, 50));
            Edges.refused("weighings 0", Edges.ARGUMENT, Edges::busy, y -> y.set(4, 0));
            Edges.due("a fee of 0", 5, new FineScrip().set(2, 0));
        });
        Edges.test("11: the exception that is named first is thrown", () -> {
            Edges.refused("no setting, -1", Edges.INDEX, Edges::busy, y -> y.set(5, -1));
            Edges.refused("no setting, 1001", Edges.INDEX, Edges::busy, y -> y.set(-1, 1001));
        });
        Edges.test("11: Undoable", () -> {
            for (int i = 0; i < 5; i++) {
                int setting = i;
                Edges.undoable("set " + i, Edges::busy, y -> y.set(setting, Edges.MOST[setting]));
            }
            Edges.undoable("the same value", Edges::busy, y -> y.set(0, 750));
        });
    }

    // ---- 12, 13

    private static void fullBuffer(FineScrip x) {
        Edges.busy(x);
        Edges.write(x, Edges.repeated("0w1;", 15));
    }

    private static void append() {
        Edges.test("12: Returns the new length of the buffer", () -> {
            FineScrip x = new FineScrip();
            for (int i = 1; i <= 60; i++) {
                Edges.due("append", i, x.append(33 + i));
            }
        });
        Edges.test("12: Throws IllegalArgumentException if code is not 33 to 126", () -> {
            for (int code : new int[] {32, 127, 0, -1, 'm' + 256, 'm' + 65536, 'm' - 65536, LEAST_INT, MOST_INT}) {
                Edges.refused("append " + code, Edges.ARGUMENT, Edges::busy, y -> y.append(code));
            }
            FineScrip x = new FineScrip();
            for (int code = 33; code <= 126; code++) {
                if (code == 90) {
                    x.clearBuffer();
                }
                Edges.due("append " + code, code < 90 ? code - 32 : code - 89, x.append(code));
            }
        });
        Edges.test("12: Throws IllegalStateException if the buffer has 60 characters", () -> {
            Edges.refused("the 61st", Edges.STATE, FineScripEdgesOfCalls::fullBuffer, y -> y.append('n'));
            Edges.refused("the 61st", Edges.STATE, FineScripEdgesOfCalls::fullBuffer, y -> y.append(126));
            FineScrip x = new FineScrip();
            Edges.write(x, Edges.repeated("~", 59));
            Edges.due("the 60th", 60, x.append('!'));
            x.clearBuffer();
            Edges.due("anew", 1, x.append('!'));
        });
        Edges.test("12: the exception that is named first is thrown", () -> {
            Edges.refused("32 as the 61st", Edges.ARGUMENT, FineScripEdgesOfCalls::fullBuffer, y -> y.append(32));
            Edges.refused("127 as the 61st", Edges.ARGUMENT, FineScripEdgesOfCalls::fullBuffer, y -> y.append(127));
        });
        Edges.test("12: Appends a character to the buffer (and changes nothing else; it is not undoable)", () -> {
            Edges.sameWhole("append", y -> {
                Edges.busy(y);
                y.clearBuffer();
            }, y -> {
                Edges.busy(y);
                y.append('z');
                y.clearBuffer();
            });
            FineScrip x = Edges.made(Edges::busy);
            x.append(';');
            x.undo();
            Edges.due("undo leaves it", Edges.BUSY_TEXT.length() + 1, x.clearBuffer());
        });
    }

    private static void clearBuffer() {
        Edges.test("13: Returns the length that it had", () -> {
            FineScrip x = new FineScrip();
            Edges.due("empty", 0, x.clearBuffer());
            x.append('?');
            Edges.due("one", 1, x.clearBuffer());
            Edges.due("cleared", 0, x.clearBuffer());
            fullBuffer(x);
            Edges.due("full", 60, x.clearBuffer());
            Edges.due("cleared", 0, x.clearBuffer());
        });
        Edges.test("13: Clears the buffer (what stood there is gone; nothing else changes; it is not undoable)", () -> {
            Edges.sameWhole("written anew", Edges::busy, y -> {
                Edges.busy(y);
                y.append('z');
                Edges.write(y, Edges.BUSY_TEXT);
            });
            FineScrip x = Edges.made(Edges::busy);
            x.clearBuffer();
            x.undo();
            Edges.due("undo does not bring it back", 0, x.clearBuffer());
        });
    }

    // ---- 14

    private static void error(String text, int want) {
        FineScrip x = new FineScrip();
        Edges.write(x, text);
        Edges.due("firstError of " + text, want, x.firstError());
    }

    private static void firstError() {
        Edges.test("14: Returns the index of the first character that is a syntax error", () -> {
            error("x", 0);
            error("8", 0);
            error("mm", 1);
            error("0w0", 2);
            error("0c12", 3);
            error("0w10000", 6);
            error("0w9999;0g9999;8", 14);
            error(Edges.repeated("n;", 29) + "nn", 59);
            error("x" + Edges.repeated("n", 59), 0);
        });
        Edges.test("14: the first, of several", () -> {
            error("xx", 0);
            error("n;x;x", 2);
            error("m1;0w0", 1);
            error(";;", 0);
        });
        Edges.test("14: the length of the buffer if there is none", () -> {
            String[] texts = {"", "n", "0", "0w", "0c", "0g", "0w1", "n;", "7g9999;m"};
            for (String text : texts) {
                error(text, text.length());
            }
            error(Edges.repeated("0w1;", 14) + "0w12", 60);
            error(Edges.repeated("0w1;", 15), 60);
        });
        Edges.test("14: it changes nothing", () -> {
            Edges.changesNothing("without an error", Edges::busy, FineScrip::firstError);
            Edges.changesNothing("with an error", y -> {
                Edges.busy(y);
                y.append('?');
            }, FineScrip::firstError);
        });
    }

    // ---- 15

    /** Of the text just so many orders are done, as these calls do them. */
    private static void lived(String text, int want, Edges.Calls before, Edges.Calls alike) {
        FineScrip x = Edges.made(before);
        Edges.write(x, text);
        Edges.due("live of " + text, want, x.live());
        Edges.due("the buffer behind " + text, 0, x.clearBuffer());
        Edges.sameNow("live of " + text, y -> {
            before.on(y);
            y.clearBuffer();
            alike.on(y);
        }, y -> {
            before.on(y);
            Edges.write(y, text);
            y.live();
        });
    }

    private static void liveOrders() {
        Edges.test("15: Does the orders as weigh(), stake(), buy(), melt() and pass() do, one after the other", () -> {
            lived("2c9;2w300;0w1;m;n;2g777;1w9;n", 8, Edges::busy, y -> {
                y.stake(2, 9);
                y.weigh(2, 300);
                y.weigh(0, 1);
                y.melt();
                y.pass(1);
                y.buy(2, 777);
                y.weigh(1, 9);
                y.pass(1);
            });
            lived("1w9999;1g9999;1g1000", 3, Edges::busy, y -> {
                y.weigh(1, 9999);
                y.buy(1, 9999);
                y.buy(1, 1000);
            });
        });
        Edges.test("15: the error of the scale grows from order to order", () -> {
            FineScrip x = Edges.evenCamp(1);
            x.set(4, 2);
            Edges.live(x, "0w1000;0w1000;0w1000;0w1000;0w1000");
            Edges.due("paid", 1000 + 1000 + 1001 + 1001 + 1002, x.count(10));
        });
        Edges.test("15: claims lapse as days go by, and can be taken again", () -> {
            FineScrip x = Edges.evenCamp(2);
            x.set(3, 2);
            x.leave(1);
            Edges.due("up to the weighing behind the lapse", 2, Edges.live(x, "n;n;0w5;n"));
            Edges.due("days", 2, x.count(0));
            Edges.due("taken again", 4, Edges.live(x, "1c0;n;1w5;n;1c0;n"));
            Edges.due("days", 0, x.claim(0, 2));
            Edges.due("lapses", 1, x.claim(0, 4));
        });
        Edges.test("15: Returns how many are done", () -> {
            FineScrip x = new FineScrip();
            Edges.due("one", 1, Edges.live(x, "n"));
            Edges.due("the most", 30, Edges.live(x, Edges.repeated("n;", 29) + "n"));
            Edges.due("days", 31, x.count(0));
            Edges.due("none", 0, Edges.live(x, "m"));
            Edges.due("some", 2, Edges.live(x, "n;n;m;n"));
            Edges.due("days", 33, x.count(0));
        });
        Edges.test("15: a day as a text of just 60 characters", () -> {
            FineScrip x = Edges.evenCamp(1);
            x.set(4, 99);
            Edges.due("orders", 15, Edges.live(x, Edges.repeated("0w1;", 14) + "0w12"));
            Edges.due("grains", 14 + 12, x.count(3));
        });
    }

    private static void liveUpToTheFirst() {
        Edges.test("15: up to the first one whose method would throw (weigh: no such digger)", () -> {
            lived("n;3w5;n", 1, Edges::busy, y -> y.pass(1));
            lived("7w5;n", 0, Edges::busy, FineScripEdgesOfCalls::nothing);
            lived("0w5;1w5;n", 3, Edges::busy, y -> {
                y.weigh(0, 5);
                y.weigh(1, 5);
                y.pass(1);
            });
        });
        Edges.test("15: up to the first one whose method would throw (weigh: no claim)", () -> {
            lived("2w5;n", 0, Edges::busy, FineScripEdgesOfCalls::nothing);
            lived("2c2;2w5;n", 3, Edges::busy, y -> {
                y.stake(2, 2);
                y.weigh(2, 5);
                y.pass(1);
            });
        });
        Edges.test("15: up to the first one whose method would throw (weigh: more than 99999 grains)", () -> {
            lived("0w9;n", 2, y -> lotOf(y, 99990), y -> {
                y.weigh(0, 9);
                y.pass(1);
            });
            lived("0w10;n", 0, y -> lotOf(y, 99990), FineScripEdgesOfCalls::nothing);
            lived("0w9;1w1;m", 1, y -> lotOf(y, 99990), y -> y.weigh(0, 9));
            lived("0w9;m;1w1", 3, y -> lotOf(y, 99990), y -> {
                y.weigh(0, 9);
                y.melt();
                y.weigh(1, 1);
            });
        });
        Edges.test("15: up to the first one whose method would throw (stake: no such digger)", () -> {
            lived("n;3c5;n", 1, Edges::busy, y -> y.pass(1));
            lived("2c5;n", 2, Edges::busy, y -> {
                y.stake(2, 5);
                y.pass(1);
            });
        });
        Edges.test("15: up to the first one whose method would throw (stake: the digger has a claim)", () -> {
            lived("0c5;n", 0, Edges::busy, FineScripEdgesOfCalls::nothing);
            lived("2c5;2c6;n", 1, Edges::busy, y -> y.stake(2, 5));
        });
        Edges.test("15: up to the first one whose method would throw (stake: the claim has a digger)", () ->
            lived("2c1;n", 0, Edges::busy, FineScripEdgesOfCalls::nothing));
        Edges.test("15: up to the first one whose method would throw (buy: no such digger)", () -> {
            lived("n;3g1;n", 1, Edges::busy, y -> y.pass(1));
            lived("2g1;n", 2, Edges::busy, y -> {
                y.buy(2, 1);
                y.pass(1);
            });
        });
        Edges.test("15: up to the first one whose method would throw (buy: a debt above 5000)", () -> {
            lived("3g1;3g1;n", 1, y -> owe(y, 4999), y -> y.buy(3, 1));
            lived("3g2;n", 0, y -> owe(y, 4999), FineScripEdgesOfCalls::nothing);
            lived("2g9999;n", 0, Edges::busy, FineScripEdgesOfCalls::nothing);
        });
        Edges.test("15: up to the first one whose method would throw (melt: an empty lot)", () -> {
            lived("m;m;n", 1, Edges::busy, FineScrip::melt);
            lived("m;0w1;m", 3, Edges::busy, y -> {
                y.melt();
                y.weigh(0, 1);
                y.melt();
            });
        });
        Edges.test("15: up to the first one whose method would throw (melt: 12 bars)", () -> {
            lived("m;1w5;m;n", 2, y -> bars(y, 11), y -> {
                y.melt();
                y.weigh(1, 5);
            });
            lived("m;n", 0, y -> bars(y, 12), FineScripEdgesOfCalls::nothing);
        });
        Edges.test("15: up to the first one whose method would throw (pass: a day above 9999)", () -> {
            lived("n;n;0g1", 1, y -> atDay(y, 9998), y -> y.pass(1));
            lived("n;0g1", 0, y -> atDay(y, 9999), FineScripEdgesOfCalls::nothing);
        });
        Edges.test("15: what is done before the first one stays done, nothing behind it is", () -> {
            FineScrip x = Edges.evenCamp(1);
            Edges.due("done", 2, Edges.live(x, "0w100;n;0c5;n;0w50;m"));
            Edges.due("weighed in", 100, x.count(3));
            Edges.due("day", 1, x.count(0));
            Edges.due("bars", 0, x.count(5));
        });
    }

    private static void liveAsOneCall() {
        Edges.test("15: clears the buffer, also if none or not all are done", () -> {
            String[] texts = {"m", "n;m;n", "n"};
            for (String text : texts) {
                FineScrip x = new FineScrip();
                Edges.live(x, text);
                Edges.due("the buffer behind " + text, 0, x.clearBuffer());
            }
        });
        Edges.test("15: Undoable, as one call", () -> Edges.undoable("three orders", Edges::busy, y -> {
            int done = Edges.live(y, "1w7;m;n");
            Edges.write(y, Edges.BUSY_TEXT);
            return done;
        }));
        Edges.test("15: Undoable, also if none is done", () -> Edges.undoable("none", Edges::busy, y -> {
            int done = Edges.live(y, "7w5;m;n");
            Edges.write(y, Edges.BUSY_TEXT);
            return done;
        }));
        Edges.test("15: one state is saved, however many orders are done", () -> {
            FineScrip x = new FineScrip();
            Edges.live(x, "n;n;n;n;n;n;n;n");
            Edges.due("eight", 1, x.count(16));
            Edges.live(x, "m");
            Edges.due("none", 2, x.count(16));
            Edges.live(x, "n;m");
            Edges.due("one", 3, x.count(16));
            x.undo();
            Edges.due("the day", 8, x.count(0));
            x.undo();
            Edges.due("the day", 8, x.count(0));
            x.undo();
            Edges.due("the day", 0, x.count(0));
        });
        Edges.test("15: undo() does not bring the text back", () -> {
            FineScrip x = new FineScrip();
            Edges.live(x, "n");
            x.undo();
            Edges.due("the buffer", 0, x.clearBuffer());
        });
        Edges.test("15: Throws IllegalArgumentException if the buffer does not tell a day as a text", () -> {
            String[] texts = {"", ";", "0", "0w", "0c", "0g", "n;", ";n", "n;;n", "nn", "8w1", "0w0", "0g01", "0w10000",
                "0c10", "n;?", "n;0", "n;0w", "0w5;m;x", Edges.repeated("n;", 30)};
            for (String text : texts) {
                Edges.refused("live of " + text, Edges.ARGUMENT, y -> {
                    Edges.busy(y);
                    Edges.write(y, text);
                }, FineScrip::live);
            }
        });
        Edges.test("15: what tells a day as a text is not refused, also if its orders would be", () -> {
            String[] texts = {"m", "7w9999", "7c9", "7g9999", "7w1;7w1"};
            for (String text : texts) {
                Edges.due("live of " + text, 0, Edges.live(new FineScrip(), text));
            }
        });
    }

    // ---- 16, 17, 18

    private static void keep() {
        Edges.test("16: Returns the day", () -> {
            FineScrip x = new FineScrip();
            Edges.due("at first", 0, x.keep(0));
            x.pass(30);
            Edges.due("then", 30, x.keep(1));
            Edges.due("the last day", 9999, Edges.made(y -> atDay(y, 9999)).keep(0));
        });
        Edges.test("16: slot: 0 or 1; Throws IllegalArgumentException if slot is out of range", () -> {
            for (int slot : NO_SLOTS) {
                Edges.refused("keep " + slot, Edges.ARGUMENT, Edges::busy, y -> y.keep(slot));
                Edges.refused("keep " + slot + " by empty slots", Edges.ARGUMENT, Edges::busyWithoutSlots,
                    y -> y.keep(slot));
            }
        });
        Edges.test("16: Takes a snapshot, in place of the one in the slot", () -> {
            for (int slot = 0; slot < 2; slot++) {
                int kept = slot;
                Edges.sameWhole("taken anew in " + slot, y -> {
                    Edges.busy(y);
                    y.buy(0, 3);
                    y.keep(kept);
                }, y -> {
                    Edges.busy(y);
                    y.keep(kept);
                    y.buy(0, 3);
                    y.keep(kept);
                    y.keep(kept);
                });
            }
        });
        Edges.test("16: the other slot stays", () -> {
            FineScrip x = new FineScrip();
            x.keep(0);
            Edges.refusedHere("the other is empty", Edges.STATE, x, y -> y.goBack(1));
            x.pass(2);
            x.keep(1);
            x.pass(3);
            x.keep(1);
            Edges.due("slot 0", 0, x.goBack(0));
            Edges.due("slot 1", 5, x.goBack(1));
        });
        Edges.test("16: it is not undoable", () -> {
            FineScrip x = new FineScrip();
            x.keep(0);
            Edges.due("saved", 0, x.count(16));
            x.pass(1);
            x.keep(0);
            Edges.due("saved", 1, x.count(16));
            x.undo();
            Edges.due("the snapshot stays", 1, x.goBack(0));
        });
    }

    private static void goBack() {
        Edges.test("17: Returns the day then", () -> {
            FineScrip x = new FineScrip();
            x.keep(0);
            x.pass(12);
            x.keep(1);
            x.pass(1);
            Edges.due("the later one", 12, x.goBack(1));
            Edges.due("the first one", 0, x.goBack(0));
            Edges.due("forward again", 12, x.goBack(1));
            Edges.due("the day", 12, x.count(0));
        });
        Edges.test("17: a snapshot, which stays (whatever is called behind it)", () -> {
            for (int slot = 0; slot < 2; slot++) {
                int kept = slot;
                Edges.sameNow("gone back to " + slot + " thrice", y -> {
                    Edges.busy(y);
                    y.goBack(kept);
                }, y -> {
                    Edges.busy(y);
                    y.goBack(kept);
                    y.weigh(0, 900);
                    y.melt();
                    y.vein(0, 500);
                    y.leave(1);
                    y.goBack(kept);
                    y.weigh(1, 3);
                    y.set(2, 9);
                    y.pass(30);
                    y.undo();
                    y.goBack(kept);
                });
            }
        });
        Edges.test("17: slot: 0 or 1; Throws IllegalArgumentException if slot is out of range", () -> {
            for (int slot : NO_SLOTS) {
                Edges.refused("goBack " + slot, Edges.ARGUMENT, Edges::busy, y -> y.goBack(slot));
            }
        });
        Edges.test("17: Throws IllegalStateException if there is no snapshot in it", () -> {
            for (int slot = 0; slot < 2; slot++) {
                int empty = slot;
                Edges.refused("both empty, " + slot, Edges.STATE, Edges::busyWithoutSlots, y -> y.goBack(empty));
                Edges.refused("the other one kept, " + slot, Edges.STATE, y -> {
                    Edges.busyWithoutSlots(y);
                    y.keep(1 - empty);
                }, y -> y.goBack(empty));
            }
            FineScrip x = Edges.made(Edges::busyWithoutSlots);
            x.keep(1);
            Edges.due("kept", 0, x.goBack(1));
        });
        Edges.test("17: the exception that is named first is thrown", () -> {
            for (int slot : NO_SLOTS) {
                Edges.refused("goBack " + slot + " by empty slots", Edges.ARGUMENT, Edges::busyWithoutSlots,
                    y -> y.goBack(slot));
            }
        });
        Edges.test("17: Undoable", () -> {
            Edges.undoable("to slot 0", Edges::busy, y -> y.goBack(0));
            Edges.undoable("to slot 1", Edges::busy, y -> y.goBack(1));
            Edges.undoable("to the state as it is", y -> {
                Edges.busy(y);
                y.keep(0);
            }, y -> y.goBack(0));
        });
    }

    private static void undo() {
        Edges.test("18: Returns how many saved states are left", () -> {
            FineScrip x = Edges.made(Edges::busy);
            for (int left = 5; left >= 0; left--) {
                Edges.due("undo", left, x.undo());
                Edges.due("saved", left, x.count(16));
            }
        });
        Edges.test("18: Throws IllegalStateException if there is none", () -> {
            Edges.refused("nothing was called", Edges.STATE, FineScripEdgesOfCalls::nothing, FineScrip::undo);
            Edges.refused("all are undone", Edges.STATE, y -> {
                Edges.busy(y);
                for (int i = 0; i < 6; i++) {
                    y.undo();
                }
            }, FineScrip::undo);
            Edges.refused("nothing undoable was called", Edges.STATE, y -> {
                y.keep(0);
                y.append('n');
                y.firstError();
                y.clearBuffer();
                y.digest();
            }, FineScrip::undo);
            FineScrip x = new FineScrip();
            x.digger();
            Edges.due("one", 0, x.undo());
        });
        Edges.test("18: Restores the latest saved state, and drops it", () -> {
            FineScrip x = new FineScrip();
            x.pass(1);
            x.pass(2);
            x.pass(4);
            x.undo();
            Edges.due("the latest", 3, x.count(0));
            x.pass(8);
            Edges.due("saved", 3, x.count(16));
            x.undo();
            Edges.due("saved in place of it", 3, x.count(0));
            x.undo();
            Edges.due("the one before", 1, x.count(0));
            x.undo();
            Edges.due("the first", 0, x.count(0));
        });
        Edges.test("18: six can be undone behind seven calls, the seventh can't", () -> {
            FineScrip x = new FineScrip();
            for (int i = 0; i < 7; i++) {
                x.pass(1);
            }
            for (int i = 0; i < 6; i++) {
                x.undo();
            }
            Edges.refusedHere("the seventh", Edges.STATE, x, FineScrip::undo);
            Edges.due("the oldest was dropped", 1, x.count(0));
        });
        Edges.test("18: calls and undo in turn, over more than six states", () -> {
            FineScrip x = new FineScrip();
            int[] days = new int[200];
            int saved = 0;
            int depth = 0;
            for (int round = 1; round <= 12; round++) {
                for (int i = 0; i < round; i++) {
                    x.pass(1 + i % 3);
                    depth++;
                    days[depth] = days[depth - 1] + 1 + i % 3;
                    saved = saved < 6 ? saved + 1 : 6;
                }
                for (int i = 0; i < round / 2 && saved > 0; i++) {
                    depth--;
                    saved--;
                    Edges.due("undo in round " + round, saved, x.undo());
                    Edges.due("the day in round " + round, days[depth], x.count(0));
                }
            }
        });
        Edges.test("18: what is called behind an undo does not touch the states before", () -> {
            Edges.sameNow("undone twice", y -> {
                Edges.busy(y);
                y.undo();
                y.undo();
                y.set(0, 750);
                y.undo();
            }, y -> {
                Edges.busy(y);
                y.undo();
                y.weigh(0, 300);
                y.undo();
                y.goBack(0);
                y.undo();
                y.undo();
            });
        });
        Edges.test("18: undo itself is not undoable", () -> {
            FineScrip x = new FineScrip();
            x.pass(1);
            x.undo();
            Edges.due("saved", 0, x.count(16));
            Edges.refusedHere("no way forward", Edges.STATE, x, FineScrip::undo);
        });
    }

    public static void main(String[] args) {
        newObject();
        digger();
        stake();
        leave();
        vein();
        weigh();
        buy();
        melt();
        adjust();
        pass();
        set();
        append();
        clearBuffer();
        firstError();
        liveOrders();
        liveUpToTheFirst();
        liveAsOneCall();
        keep();
        goBack();
        undo();
        Edges.end();
    }
}
