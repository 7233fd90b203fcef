/** The boundary sentences of the document's terms: each has a test of its own, on either side. */
public final class FineScripEdgesOfTerms {
    private static void roundedDown() {
        Edges.test("Terms: divisions are rounded down (the weight as told)", () -> {
            FineScrip x = new FineScrip();
            x.adjust(50);
            Edges.due("19.95", 19, x.ifWeighed(19, 2));
            Edges.due("21 without a rest", 21, x.ifWeighed(20, 2));
            x.adjust(-50);
            Edges.due("0.95", 0, x.ifWeighed(1, 2));
            Edges.due("18.05", 18, x.ifWeighed(19, 2));
            Edges.due("19 without a rest", 19, x.ifWeighed(20, 2));
            Edges.due("19.95", 19, x.ifWeighed(21, 2));
            x.adjust(-1);
            Edges.due("998.001", 998, x.ifWeighed(999, 2));
        });
        Edges.test("Terms: divisions are rounded down (what the store takes to be fine)", () -> {
            FineScrip x = new FineScrip();
            x.set(1, 10);
            x.set(2, 0);
            int[] fine = {0, 1, 2, 3, 3};
            for (int grains = 1; grains <= 5; grains++) {
                Edges.due(grains + " times 750, divided by 1000", fine[grains - 1], x.ifWeighed(grains, 0));
            }
        });
        Edges.test("Terms: divisions are rounded down (cents for 10 grains)", () -> {
            FineScrip x = new FineScrip();
            x.set(0, 1000);
            x.set(1, 9);
            x.set(2, 0);
            Edges.due("0.9", 0, x.ifWeighed(1, 0));
            Edges.due("1.8", 1, x.ifWeighed(2, 0));
            Edges.due("8.1", 8, x.ifWeighed(9, 0));
            Edges.due("9 without a rest", 9, x.ifWeighed(10, 0));
        });
        Edges.test("Terms: divisions are rounded down (one behind the other)", () -> {
            FineScrip x = new FineScrip();
            x.set(2, 0);
            // 2.25 is 2 before it is paid for; all at once would be 9.
            Edges.due("3 grains of 750", 8, x.ifWeighed(3, 0));
            x.adjust(50);
            // Told 19 (19.95), fine 14 (14.25), 56.
            Edges.due("19 grains told more", 56, x.ifWeighed(19, 0));
        });
        Edges.test("Terms: divisions are rounded down (the fee)", () -> {
            FineScrip x = new FineScrip();
            Edges.evenCents(x);
            x.set(2, 5);
            int[] grains = {1, 19, 20, 39, 40};
            int[] fees = {0, 0, 1, 1, 2};
            for (int i = 0; i < grains.length; i++) {
                Edges.due("fee of " + grains[i], fees[i], x.ifWeighed(grains[i], 1));
                Edges.due("pay of " + grains[i], grains[i] - fees[i], x.ifWeighed(grains[i], 0));
            }
        });
        Edges.test("Terms: divisions are rounded down (what is fine of the dust)", () -> {
            FineScrip x = Edges.evenCamp(1);
            x.vein(0, 999);
            x.weigh(0, 1);
            Edges.due("0.999", 0, x.count(4));
            x.weigh(0, 1);
            Edges.due("each weighing by itself", 0, x.count(4));
            x.weigh(0, 1000);
            Edges.due("999 without a rest", 999, x.count(4));
            x.weigh(0, 1001);
            Edges.due("999.999", 999 + 999, x.count(4));
            x.vein(0, 1000);
            x.weigh(0, 1);
            Edges.due("1 without a rest", 999 + 999 + 1, x.count(4));
            x.vein(0, 500);
            x.weigh(0, 1);
            Edges.due("0.5", 1999, x.count(4));
            x.weigh(0, 2);
            Edges.due("1 of 2", 2000, x.count(4));
            x.weigh(0, 3);
            Edges.due("1.5", 2001, x.count(4));
        });
        Edges.test("Terms: divisions are rounded down (the worth)", () -> {
            int[] cents = {9, 10, 19, 20, 999};
            int[] worths = {0, 1, 1, 2, 99};
            FineScrip x = Edges.evenCamp(1);
            x.vein(0, 1000);
            x.weigh(0, 1);
            x.melt();
            for (int i = 0; i < cents.length; i++) {
                x.set(1, cents[i]);
                Edges.due("the worth of 1 by " + cents[i], worths[i], x.bar(0, 4));
            }
        });
        Edges.test("Terms: divisions are rounded down (the fineness of a bar)", () -> {
            FineScrip x = Edges.evenCamp(1);
            x.vein(0, 500);
            int[] grains = {1, 2, 3, 7};
            int[] fineness = {0, 500, 333, 428};
            for (int i = 0; i < grains.length; i++) {
                x.weigh(0, grains[i]);
                x.melt();
                Edges.due("of " + grains[i] + " grains", fineness[i], x.bar(i, 2));
            }
        });
    }

    private static void diggersAndClaims() {
        Edges.test("Terms: There are at most 8 diggers, numbered from 0 in the order in which they came", () -> {
            FineScrip x = new FineScrip();
            for (int i = 0; i < 8; i++) {
                Edges.due("digger", i, x.digger());
            }
            Edges.refusedHere("the ninth", Edges.STATE, x, FineScrip::digger);
            Edges.due("still 8", 8, x.count(1));
        });
        Edges.test("Terms: scrip, at first 0, a debt, at first 0, and a claim or none, at first none", () -> {
            FineScrip x = new FineScrip();
            x.digger();
            newDigger(x, 0);
            useFully(x, 0);
            x.digger();
            newDigger(x, 1);
        });
        Edges.test("Terms: at first 0, also when a digger comes anew behind undo()", () -> {
            FineScrip x = new FineScrip();
            x.digger();
            useFully(x, 0);
            // Five calls were saved: digger() and the four behind it.
            for (int i = 0; i < 5; i++) {
                x.undo();
            }
            Edges.due("nobody", 0, x.count(1));
            Edges.due("comes anew", 0, x.digger());
            newDigger(x, 0);
            Edges.due("the claim is free", -1, x.claim(4, 1));
        });
        Edges.test("Terms: at first 0, also when a digger comes anew behind goBack()", () -> {
            FineScrip x = new FineScrip();
            x.keep(0);
            x.digger();
            useFully(x, 0);
            x.goBack(0);
            Edges.due("comes anew", 0, x.digger());
            newDigger(x, 0);
        });
        Edges.test("Terms: 10 claims, numbered from 0; each has a fineness, at first 800 each, and a digger or none", () -> {
            FineScrip x = new FineScrip();
            for (int i = 0; i < 10; i++) {
                Edges.due("fineness", 800, x.claim(i, 0));
                Edges.due("digger", -1, x.claim(i, 1));
                Edges.due("days", 0, x.claim(i, 2));
                Edges.due("grains", 0, x.claim(i, 3));
                Edges.due("lapses", 0, x.claim(i, 4));
            }
            Edges.refusedHere("claim 10", Edges.ARGUMENT, x, y -> y.claim(10, 0));
            Edges.refusedHere("claim -1", Edges.ARGUMENT, x, y -> y.claim(-1, 0));
        });
        Edges.test("Terms: A claim can lapse: it has no digger then", () -> {
            FineScrip x = Edges.evenCamp(2);
            x.pass(6);
            Edges.due("one day less", 0, x.claim(0, 1));
            Edges.due("one day less", 0, x.diggerOf(0, 2));
            x.weigh(1, 1);
            x.pass(1);
            Edges.due("the claim's digger", -1, x.claim(0, 1));
            Edges.due("the digger's claim", -1, x.diggerOf(0, 2));
            Edges.due("claims with diggers", 1, x.count(2));
            Edges.due("the other claim stays", 1, x.claim(1, 1));
            Edges.due("the other digger's", 1, x.diggerOf(1, 2));
        });
        Edges.test("Terms: Somebody who has none can take a claim that has no digger", () -> {
            FineScrip x = Edges.evenCamp(2);
            x.digger();
            x.pass(6);
            x.weigh(1, 1);
            Edges.refusedHere("before it lapses", Edges.STATE, x, y -> y.stake(2, 0));
            x.pass(1);
            Edges.due("somebody else takes it", 2, x.stake(2, 0));
            Edges.due("the claim's digger", 2, x.claim(0, 1));
            Edges.refusedHere("who had it", Edges.STATE, x, y -> y.stake(0, 0));
            Edges.due("who had it takes another one", 3, x.stake(0, 9));
            x.leave(0);
            x.leave(2);
            Edges.due("who had it takes it again", 2, x.stake(0, 0));
        });
    }

    /** The digger takes the claim 4, is paid, and buys more than that. */
    private static void useFully(FineScrip x, int digger) {
        x.stake(digger, 4);
        x.weigh(digger, 1000);
        x.buy(digger, 3000);
        x.weigh(digger, 20);
    }

    private static void newDigger(FineScrip x, int digger) {
        for (int what = 0; what <= 8; what++) {
            Edges.due("property " + what + " of " + digger, what == 2 ? FineScrip.NONE : 0, x.diggerOf(digger, what));
        }
    }

    private static void theScale() {
        Edges.test("Terms: the weight times (1000 and the error), divided by 1000; the error is -50 to 50, at first 0", () -> {
            FineScrip x = new FineScrip();
            Edges.due("at first 0", 50, x.count(6));
            Edges.due("tells the weight", 1000, x.ifWeighed(1000, 2));
            int[] errors = {-50, -1, 0, 1, 50};
            for (int error : errors) {
                x.adjust(error);
                Edges.due("with " + error, 1000 + error, x.ifWeighed(1000, 2));
            }
        });
        Edges.test("Terms: behind each one whose count has no rest by setting 4 the error grows by 1 (since the beginning)", () -> {
            FineScrip x = Edges.evenCamp(1);
            for (int i = 1; i <= 31; i++) {
                x.weigh(0, 1);
                Edges.due("count behind " + i, i, x.count(7));
                Edges.due("error behind " + i, 50 + i / 10, x.count(6));
            }
        });
        Edges.test("Terms: behind each one the error grows (the weighing itself is told by the error before it)", () -> {
            FineScrip x = Edges.evenCamp(1);
            x.set(4, 2);
            int[] pays = {1000, 1000, 1001, 1001, 1002};
            for (int pay : pays) {
                Edges.due("weigh", pay, x.weigh(0, 1000));
            }
        });
        Edges.test("Terms: Weighings are counted since it was set", () -> {
            FineScrip x = Edges.evenCamp(1);
            x.set(4, 3);
            x.weigh(0, 1);
            x.weigh(0, 1);
            x.adjust(10);
            Edges.due("anew", 0, x.count(7));
            x.weigh(0, 1);
            x.weigh(0, 1);
            Edges.due("two since it was set", 60, x.count(6));
            x.weigh(0, 1);
            Edges.due("three since it was set", 61, x.count(6));
            Edges.due("counted on", 3, x.count(7));
        });
        Edges.test("Terms: Weighings are counted, by whomever and over meltings and days", () -> {
            FineScrip x = Edges.evenCamp(2);
            x.set(4, 4);
            x.weigh(0, 1);
            x.weigh(1, 1);
            x.melt();
            x.weigh(1, 1);
            x.pass(2);
            Edges.due("three", 50, x.count(6));
            x.weigh(0, 1);
            Edges.due("four", 51, x.count(6));
        });
        Edges.test("Terms: 50 is the most", () -> {
            FineScrip x = Edges.evenCamp(1);
            x.set(4, 1);
            x.adjust(48);
            int[] errors = {99, 100, 100, 100};
            for (int i = 0; i < errors.length; i++) {
                x.weigh(0, 1);
                Edges.due("error and 50", errors[i], x.count(6));
                Edges.due("still counted", i + 1, x.count(7));
            }
            Edges.due("told", 1050, x.ifWeighed(1000, 2));
            x.adjust(50);
            x.weigh(0, 1);
            Edges.due("set to 50", 100, x.count(6));
        });
        Edges.test("Terms: the error grows by 1, also from the least and over 0", () -> {
            FineScrip x = Edges.evenCamp(1);
            x.set(4, 1);
            x.adjust(-50);
            x.weigh(0, 1);
            Edges.due("from -50", 1, x.count(6));
            x.adjust(-1);
            x.weigh(0, 1);
            Edges.due("from -1", 50, x.count(6));
            x.weigh(0, 1);
            Edges.due("from 0", 51, x.count(6));
        });
        Edges.test("Terms: 4: weighings until the scale errs more, as it is at the weighing", () -> {
            FineScrip x = Edges.evenCamp(1);
            for (int i = 0; i < 6; i++) {
                x.weigh(0, 1);
            }
            x.set(4, 3);
            Edges.due("a setting alone", 50, x.count(6));
            Edges.due("does not count anew", 6, x.count(7));
            x.weigh(0, 1);
            Edges.due("the seventh by 3", 50, x.count(6));
            x.set(4, 4);
            x.weigh(0, 1);
            Edges.due("the eighth by 4", 51, x.count(6));
        });
        Edges.test("Terms: 4: 1 to 99 weighings", () -> {
            FineScrip x = Edges.evenCamp(1);
            x.set(4, 99);
            for (int i = 0; i < 98; i++) {
                x.weigh(0, 1);
            }
            Edges.due("98", 50, x.count(6));
            x.weigh(0, 1);
            Edges.due("99", 51, x.count(6));
            x.set(4, 1);
            x.weigh(0, 1);
            Edges.due("each one", 52, x.count(6));
        });
    }

    private static void whatIsPaid() {
        Edges.test("Terms: The store takes the dust to be as fine as setting 0 tells", () -> {
            FineScrip x = Edges.evenCamp(2);
            x.vein(0, 1000);
            x.vein(1, 500);
            x.set(0, 500);
            Edges.due("of 1000", 500, x.weigh(0, 1000));
            Edges.due("of 500", 500, x.weigh(1, 1000));
            x.set(0, 1000);
            Edges.due("of 500", 1000, x.weigh(1, 1000));
        });
        Edges.test("Terms: The fee is setting 2 times the price, divided by 100; it pays the price less the fee", () -> {
            FineScrip x = Edges.evenCamp(1);
            Edges.due("no fee", 101, x.weigh(0, 101));
            Edges.due("no fee", 0, x.count(11));
            x.set(2, 50);
            Edges.due("the most", 51, x.weigh(0, 101));
            Edges.due("the most", 50, x.count(11));
            x.set(2, 1);
            Edges.due("one of a hundred", 99, x.weigh(0, 100));
            Edges.due("none of 99", 99, x.weigh(0, 99));
            Edges.due("fees", 51, x.count(11));
        });
        Edges.test("Terms: half (rounded down) goes to the debt, what is left to the scrip", () -> {
            paidWithDebt(100, 1, 100, 1);
            paidWithDebt(100, 2, 99, 1);
            paidWithDebt(100, 3, 99, 2);
            paidWithDebt(100, 199, 1, 100);
        });
        Edges.test("Terms: but no more than there is of it goes to the debt", () -> {
            paidWithDebt(100, 199, 1, 100);
            paidWithDebt(100, 200, 0, 100);
            paidWithDebt(100, 201, 0, 101);
            paidWithDebt(100, 202, 0, 102);
            paidWithDebt(1, 9999, 0, 9998);
            paidWithDebt(5000, 9999, 1, 5000);
        });
        Edges.test("Terms: without a debt all goes to the scrip", () -> {
            paidWithDebt(0, 1, 0, 1);
            paidWithDebt(0, 1001, 0, 1001);
        });
        Edges.test("Terms: half of what it pays, not of the price", () -> {
            FineScrip x = Edges.evenCamp(1);
            x.set(2, 50);
            x.buy(0, 100);
            Edges.due("pay", 50, x.weigh(0, 100));
            Edges.due("debt", 75, x.diggerOf(0, 1));
            Edges.due("scrip", 25, x.diggerOf(0, 0));
        });
        Edges.test("Terms: nothing is paid for dust that is told as 0", () -> {
            FineScrip x = Edges.evenCamp(1);
            x.buy(0, 7);
            x.adjust(-50);
            Edges.due("pay", 0, x.weigh(0, 1));
            Edges.due("debt", 7, x.diggerOf(0, 1));
            Edges.due("scrip", 0, x.diggerOf(0, 0));
            Edges.due("it lies in the lot", 1, x.count(3));
            Edges.due("it is counted", 1, x.count(7));
        });
    }

    private static void paidWithDebt(int debt, int pay, int debtThen, int scripThen) {
        FineScrip x = Edges.evenCamp(1);
        if (debt > 0) {
            x.buy(0, debt);
        }
        String what = "pay " + pay + " with a debt of " + debt;
        Edges.due(what, pay, x.weigh(0, pay));
        Edges.due(what + ", debt", debtThen, x.diggerOf(0, 1));
        Edges.due(what + ", scrip", scripThen, x.diggerOf(0, 0));
    }

    private static void lotAndBars() {
        Edges.test("Terms: The dust lies in the lot: its weight (the true one)", () -> {
            for (int error = -50; error <= 50; error += 25) {
                FineScrip x = Edges.evenCamp(1);
                x.adjust(error);
                x.weigh(0, 1000);
                Edges.due("lot", 1000, x.count(3));
                Edges.due("fine of it", 800, x.count(4));
                Edges.due("the digger's", 1000, x.diggerOf(0, 3));
                Edges.due("what is fine of the digger's", 800, x.diggerOf(0, 4));
                Edges.due("the claim's", 1000, x.claim(0, 3));
            }
        });
        Edges.test("Terms: a bar, numbered from 0, at most 12", () -> {
            FineScrip x = Edges.evenCamp(1);
            for (int i = 0; i < 12; i++) {
                x.weigh(0, 1 + i);
                Edges.due("melt", i, x.melt());
            }
            x.weigh(0, 1);
            Edges.refusedHere("the thirteenth", Edges.STATE, x, FineScrip::melt);
            Edges.due("bars", 12, x.count(5));
            Edges.due("the first", 1, x.bar(0, 0));
            Edges.due("the last", 12, x.bar(11, 0));
        });
        Edges.test("Terms: both together of all that was weighed in since the last melting", () -> {
            FineScrip x = Edges.evenCamp(2);
            x.vein(0, 501);
            x.weigh(0, 3);
            x.weigh(1, 1);
            x.leave(0);
            x.pass(2);
            x.weigh(1, 10);
            x.melt();
            Edges.due("weight", 14, x.bar(0, 0));
            // 1.503, 0.8 and 8, each rounded down.
            Edges.due("fine", 9, x.bar(0, 1));
            Edges.due("the lot is empty", 0, x.count(3) + x.count(4));
            x.weigh(1, 5);
            x.melt();
            Edges.due("weight since", 5, x.bar(1, 0));
            Edges.due("fine since", 4, x.bar(1, 1));
            Edges.due("prices since", 5, x.bar(1, 3));
        });
        Edges.test("Terms: The prices of all that was weighed in for it stand against its worth", () -> {
            FineScrip x = Edges.evenCamp(1);
            x.set(2, 50);
            x.weigh(0, 101);
            x.set(1, 20);
            x.weigh(0, 10);
            x.set(1, 30);
            x.melt();
            Edges.due("prices, fees in them, as they were", 101 + 20, x.bar(0, 3));
            Edges.due("worth", 88 * 3, x.bar(0, 4));
        });
        Edges.test("Terms: the sums hold the most that can be weighed in", () -> {
            FineScrip x = new FineScrip();
            Edges.camp(x, 1);
            x.vein(0, 1000);
            x.set(0, 1000);
            x.set(1, 999);
            x.set(2, 0);
            x.adjust(50);
            for (int lot = 0; lot < 13; lot++) {
                for (int i = 0; i < 10; i++) {
                    Edges.due("pay of 9999", 1048750, x.weigh(0, 9999));
                }
                Edges.due("pay of 9", 899, x.weigh(0, 9));
                if (lot < 12) {
                    x.melt();
                }
            }
            Edges.due("prices of a bar", 10488399, x.bar(11, 3));
            Edges.due("worth of a bar", 9989900, x.bar(11, 4));
            Edges.due("fineness of a bar", 1000, x.bar(11, 2));
            Edges.due("scrip", 136349187, x.count(8));
            Edges.due("paid", 136349187, x.count(10));
            Edges.due("paid, told in another way", 136349187, x.count(15));
            Edges.due("fine", 1299987, x.count(13));
            Edges.due("fine, told by diggers", 1299987, x.count(14));
            Edges.due("the store lost", 1, x.diggerOf(0, 8));
            Edges.dueShare("share", 1.0, x.fineShare());
            Edges.refusedHere("one grain more", Edges.STATE, x, y -> y.weigh(0, 1));
            Edges.refusedHere("one bar more", Edges.STATE, x, FineScrip::melt);
        });
    }

    private static void days() {
        Edges.test("Terms: The day is at first 0; when a day goes by the day is 1 more", () -> {
            FineScrip x = new FineScrip();
            Edges.due("at first", 0, x.count(0));
            x.pass(1);
            Edges.due("then", 1, x.count(0));
            Edges.due("as a text", 1, Edges.live(x, "n"));
            Edges.due("then", 2, x.count(0));
        });
        Edges.test("Terms: each claim with a digger counts one day more, if nothing was weighed in from it on this day", () -> {
            FineScrip x = Edges.evenCamp(2);
            x.weigh(1, 1);
            x.pass(1);
            Edges.due("nothing was weighed in", 1, x.claim(0, 2));
            Edges.due("one grain was", 0, x.claim(1, 2));
            x.pass(1);
            Edges.due("nothing was weighed in", 2, x.claim(0, 2));
            Edges.due("the day before alone", 1, x.claim(1, 2));
            x.weigh(0, 1);
            x.pass(1);
            Edges.due("otherwise 0 days", 0, x.claim(0, 2));
            Edges.due("one day more", 2, x.claim(1, 2));
        });
        Edges.test("Terms: weighed in on this day (more than once)", () -> {
            FineScrip x = Edges.evenCamp(2);
            for (int i = 0; i < 3; i++) {
                x.weigh(0, 1);
            }
            x.weigh(1, 1);
            x.weigh(1, 1);
            x.pass(1);
            Edges.due("thrice", 0, x.claim(0, 2));
            Edges.due("twice", 0, x.claim(1, 2));
        });
        Edges.test("Terms: a claim without a digger counts no days", () -> {
            FineScrip x = new FineScrip();
            x.digger();
            x.pass(30);
            Edges.due("never taken", 0, x.claim(3, 2));
            Edges.due("no lapse", 0, x.claim(3, 4));
            x.stake(0, 3);
            x.pass(1);
            Edges.due("counts from when it is taken", 1, x.claim(3, 2));
        });
        Edges.test("Terms: on this day since it was taken (left and taken again by the same)", () -> {
            FineScrip x = Edges.evenCamp(1);
            x.weigh(0, 1);
            x.leave(0);
            x.stake(0, 0);
            x.pass(1);
            Edges.due("weighed in before it was taken", 1, x.claim(0, 2));
            x.weigh(0, 1);
            x.leave(0);
            x.stake(0, 0);
            x.weigh(0, 1);
            x.pass(1);
            Edges.due("weighed in since it was taken", 0, x.claim(0, 2));
        });
        Edges.test("Terms: on this day since it was taken (taken by another one)", () -> {
            FineScrip x = Edges.evenCamp(2);
            x.weigh(0, 1);
            x.leave(0);
            x.leave(1);
            x.stake(1, 0);
            x.stake(0, 1);
            x.pass(1);
            Edges.due("weighed in by who had it", 1, x.claim(0, 2));
            Edges.due("weighed in from another claim", 1, x.claim(1, 2));
        });
        Edges.test("Terms: weighed in on this day (days that go by in one call)", () -> {
            FineScrip x = Edges.evenCamp(1);
            x.weigh(0, 1);
            x.pass(4);
            Edges.due("the first of four days alone", 3, x.claim(0, 2));
        });
        Edges.test("Terms: weighed in on this day (dust that is told as 0, or melted on this day)", () -> {
            FineScrip x = Edges.evenCamp(2);
            x.adjust(-50);
            Edges.due("told as 0", 0, x.weigh(0, 1));
            x.weigh(1, 1000);
            x.melt();
            x.pass(1);
            Edges.due("days of the first", 0, x.claim(0, 2));
            Edges.due("days of the second", 0, x.claim(1, 2));
        });
        Edges.test("Terms: it lapses if these are setting 3 or more (at first 7)", () -> {
            FineScrip x = Edges.evenCamp(1);
            x.pass(6);
            Edges.due("six days", 6, x.claim(0, 2));
            Edges.due("six days", 0, x.claim(0, 1));
            Edges.due("seven days", 1, x.pass(1));
            Edges.due("seven days", -1, x.claim(0, 1));
            Edges.due("seven days", 1, x.claim(0, 4));
        });
        Edges.test("Terms: it lapses if these are setting 3 or more (1)", () -> {
            FineScrip x = Edges.evenCamp(2);
            x.set(3, 1);
            x.weigh(1, 1);
            Edges.due("one day", 1, x.pass(1));
            Edges.due("one day", -1, x.claim(0, 1));
            Edges.due("0 days are less", 1, x.claim(1, 1));
        });
        Edges.test("Terms: it lapses if these are setting 3 or more (30)", () -> {
            FineScrip x = Edges.evenCamp(1);
            x.set(3, 30);
            Edges.due("29 days", 0, x.pass(29));
            Edges.due("29 days", 29, x.claim(0, 2));
            Edges.due("30 days", 1, x.pass(1));
        });
        Edges.test("Terms: it lapses if these are setting 3 or more (more, when the setting became less)", () -> {
            FineScrip x = Edges.evenCamp(2);
            x.set(3, 30);
            x.pass(9);
            x.set(3, 3);
            Edges.due("a setting alone", 2, x.count(2));
            x.weigh(1, 1);
            Edges.due("ten are more than three", 1, x.pass(1));
            Edges.due("the other counts 0", 0, x.claim(1, 2));
            Edges.due("the other stays", 1, x.claim(1, 1));
        });
        Edges.test("Terms: a claim that is taken counts from 0, whatever it counted before", () -> {
            FineScrip x = Edges.evenCamp(1);
            x.pass(6);
            x.leave(0);
            x.stake(0, 0);
            Edges.due("taken anew", 0, x.claim(0, 2));
            Edges.due("six days", 0, x.pass(6));
            Edges.due("seven days", 1, x.pass(1));
            x.stake(0, 0);
            Edges.due("taken behind the lapse", 0, x.claim(0, 2));
            Edges.due("six days", 0, x.pass(6));
            Edges.due("seven days", 1, x.pass(1));
            Edges.due("lapses", 2, x.claim(0, 4));
        });
    }

    private static void settings() {
        Edges.test("Terms: the settings at first", () -> {
            FineScrip x = new FineScrip();
            for (int i = 0; i < 5; i++) {
                Edges.due("setting " + i, Edges.FIRST[i], x.setting(i));
            }
        });
        for (int i = 0; i < 5; i++) {
            int setting = i;
            int least = Edges.LEAST[i];
            int most = Edges.MOST[i];
            Edges.test("Terms: setting " + i + " is " + least + " to " + most, () -> {
                FineScrip x = new FineScrip();
                x.set(setting, least);
                Edges.due("the least", least, x.setting(setting));
                x.set(setting, most);
                Edges.due("the most", most, x.setting(setting));
                for (int value : new int[] {least - 1, most + 1, Integer.MIN_VALUE, Integer.MAX_VALUE}) {
                    Edges.refused("set " + setting + " to " + value, Edges.ARGUMENT, Edges::busy,
                        y -> y.set(setting, value));
                }
            });
        }
    }

    // ---- input text

    private static final String DIGITS = "0123456789";
    private static final String ORDER = "01234567mn";

    /** Behind the text just these characters are no syntax errors. */
    private static void mayStandBehind(String text, String right) {
        for (int code = 33; code <= 126; code++) {
            FineScrip x = new FineScrip();
            Edges.write(x, text);
            x.append(code);
            int want = right.indexOf(code) >= 0 ? text.length() + 1 : text.length();
            Edges.due("firstError of " + text + (char) code, want, x.firstError());
        }
    }

    private static void tellsADay(String text) {
        FineScrip x = new FineScrip();
        Edges.write(x, text);
        Edges.due("live of " + text, 0, x.live());
    }

    private static void tellsNoDay(String text) {
        FineScrip x = new FineScrip();
        Edges.write(x, text);
        Edges.refusedHere("live of " + text, Edges.ARGUMENT, x, FineScrip::live);
        Edges.due("the text stays", text.length(), x.clearBuffer());
    }

    private static void inputText() {
        Edges.test("Terms: The buffer has at most 60 characters", () -> {
            FineScrip x = new FineScrip();
            Edges.write(x, Edges.repeated("n", 59));
            Edges.due("the last", 60, x.append('n'));
            Edges.refusedHere("one more", Edges.STATE, x, y -> y.append('n'));
            Edges.due("60", 60, x.clearBuffer());
        });
        Edges.test("Terms: A day as a text is one or more orders with \";\" between them", () -> {
            tellsADay("m");
            tellsADay("m;n");
            tellsADay(Edges.repeated("m;", 29) + "m");
            for (String text : new String[] {"", ";", "m;", ";m", "m;;n", "mn", "m,n"}) {
                tellsNoDay(text);
            }
        });
        Edges.test("Terms: the digit of a digger, 0 to 7 (or \"m\", or \"n\") begins an order", () -> {
            mayStandBehind("", ORDER);
            mayStandBehind("m;", ORDER);
            mayStandBehind("n;", ORDER);
            mayStandBehind("7w9999;", ORDER);
            mayStandBehind("0c9;", ORDER);
            mayStandBehind("0g1;", ORDER);
        });
        Edges.test("Terms: behind the digit \"w\", or \"c\", or \"g\"", () -> {
            mayStandBehind("0", "wcg");
            mayStandBehind("7", "wcg");
            mayStandBehind("m;3", "wcg");
        });
        Edges.test("Terms: Numbers are without leading zeros", () -> {
            mayStandBehind("0w", "123456789");
            mayStandBehind("0g", "123456789");
            tellsNoDay("0w0");
            tellsNoDay("0w01");
            tellsNoDay("0g0");
            tellsNoDay("0g05");
            tellsADay("0w10");
            tellsADay("0g1000");
        });
        Edges.test("Terms: \"w\" and grains, 1 to 9999", () -> {
            mayStandBehind("0w1", DIGITS + ";");
            mayStandBehind("0w10", DIGITS + ";");
            mayStandBehind("0w999", DIGITS + ";");
            mayStandBehind("0w1000", ";");
            mayStandBehind("7w9999", ";");
            tellsADay("0w1");
            tellsADay("7w9999");
            tellsNoDay("0w");
            tellsNoDay("0w10000");
        });
        Edges.test("Terms: \"g\" and cents, 1 to 9999", () -> {
            mayStandBehind("0g1", DIGITS + ";");
            mayStandBehind("0g90", DIGITS + ";");
            mayStandBehind("0g999", DIGITS + ";");
            mayStandBehind("0g1000", ";");
            mayStandBehind("7g9999", ";");
            tellsADay("0g1");
            tellsADay("7g9999");
            tellsNoDay("0g");
            tellsNoDay("0g10000");
        });
        Edges.test("Terms: \"c\" and the digit of a claim, 0 to 9", () -> {
            mayStandBehind("0c", DIGITS);
            mayStandBehind("7c0", ";");
            mayStandBehind("0c9", ";");
            tellsADay("0c0");
            tellsADay("7c9");
            tellsNoDay("0c");
            tellsNoDay("0c10");
        });
        Edges.test("Terms: or \"m\" (the lot is melted); or \"n\" (a day goes by)", () -> {
            mayStandBehind("m", ";");
            mayStandBehind("n", ";");
            mayStandBehind("0w5;m", ";");
            tellsADay("m");
            tellsADay("m;n");
            tellsNoDay("M");
            tellsNoDay("m1");
            tellsNoDay("0m");
            tellsNoDay("n2");
        });
        Edges.test("Terms: a syntax error if no day as a text, of any length, begins so", () -> {
            // These would go on behind the 60th character.
            String[] ends = {"n;", "0c", "0w", "0g"};
            for (String end : ends) {
                FineScrip x = new FineScrip();
                Edges.write(x, Edges.repeated("n;", 29) + end);
                Edges.due("firstError with the end " + end, 60, x.firstError());
                Edges.refusedHere("live with the end " + end, Edges.ARGUMENT, x, FineScrip::live);
            }
            FineScrip y = new FineScrip();
            Edges.write(y, Edges.repeated("n;", 28) + "n;n0");
            Edges.due("firstError with the end n0", 59, y.firstError());
        });
    }

    // ---- snapshots, undo

    private static void changeMuch(FineScrip x) {
        x.leave(0);
        x.vein(0, 500);
        x.digger();
        x.stake(0, 7);
        x.weigh(0, 500);
        x.melt();
        x.set(1, 60);
        x.adjust(-4);
        x.buy(1, 100);
        x.pass(29);
        x.weigh(0, 1);
    }

    /** Melts the bars from the first number to just below the last one, each of so many grains. */
    private static void meltFrom(FineScrip x, int first, int last, int grains) {
        for (int i = first; i < last; i++) {
            x.weigh(0, grains);
            x.melt();
        }
    }

    /** Takes the latest bar back, and the weighing in front of it. */
    private static void undoBar(FineScrip x) {
        x.undo();
        x.undo();
    }

    private static void snapshots() {
        Edges.test("Terms: There are two slots", () -> {
            FineScrip x = new FineScrip();
            x.keep(0);
            x.pass(1);
            x.keep(1);
            x.pass(1);
            Edges.due("slot 0", 0, x.goBack(0));
            Edges.due("slot 1", 1, x.goBack(1));
            Edges.due("slot 0", 0, x.goBack(0));
        });
        Edges.test("Terms: a snapshot is all", () -> {
            for (int slot = 0; slot < 2; slot++) {
                int kept = slot;
                Edges.sameNow("slot " + slot, Edges::busy, x -> {
                    Edges.busy(x);
                    x.keep(kept);
                    changeMuch(x);
                    x.goBack(kept);
                });
            }
        });
        Edges.test("Terms: a snapshot is all (bars, the first and the last, that were melted anew)", () -> {
            for (int bars = 1; bars <= 12; bars++) {
                FineScrip x = Edges.evenCamp(1);
                x.set(4, 99);
                meltFrom(x, 0, bars, 10);
                x.keep(1);
                undoBar(x);
                x.weigh(0, 500);
                Edges.due("another bar", bars - 1, x.melt());
                Edges.due("another bar", 500, x.bar(bars - 1, 0));
                x.goBack(1);
                Edges.due("the bar of the snapshot", 10, x.bar(bars - 1, 0));
                Edges.due("what is fine of it", 8, x.bar(bars - 1, 1));
                Edges.due("its prices", 10, x.bar(bars - 1, 3));
                x.undo();
                Edges.due("the bar from before", 500, x.bar(bars - 1, 0));
                Edges.due("what is fine of it", 400, x.bar(bars - 1, 1));
                Edges.due("its prices", 500, x.bar(bars - 1, 3));
            }
        });
        Edges.test("Terms: a snapshot is all but the buffer", () -> {
            FineScrip x = new FineScrip();
            Edges.write(x, "m;n");
            x.keep(0);
            x.append(';');
            x.goBack(0);
            Edges.due("as it is now", 4, x.clearBuffer());
            x.goBack(0);
            Edges.due("still empty", 0, x.clearBuffer());
        });
        Edges.test("Terms: a snapshot is all but the slots", () -> {
            FineScrip x = new FineScrip();
            x.keep(0);
            x.pass(3);
            x.keep(1);
            x.goBack(0);
            Edges.due("the other slot", 3, x.goBack(1));
            Edges.due("the slot itself", 0, x.goBack(0));
        });
        Edges.test("Terms: a snapshot is all but the saved states", () -> {
            FineScrip x = new FineScrip();
            x.keep(0);
            x.pass(3);
            x.pass(4);
            x.goBack(0);
            Edges.due("saved", 3, x.count(16));
            x.undo();
            Edges.due("undone", 7, x.count(0));
            x.undo();
            Edges.due("undone", 3, x.count(0));
        });
    }

    private static void savedStates() {
        Edges.test("Terms: saves the state from before it (also if it changes nothing)", () -> {
            FineScrip x = new FineScrip();
            x.digger();
            x.keep(0);
            Edges.Answer[] calls = {y -> y.set(0, 750), y -> y.vein(3, 800), y -> y.adjust(0), y -> y.goBack(0)};
            for (int i = 0; i < calls.length; i++) {
                calls[i].of(x);
                Edges.due("saved behind call " + i, i + 2, x.count(16));
            }
            Edges.live(x, "m");
            Edges.due("saved behind a day of which nothing is done", 6, x.count(16));
            for (int left = 5; left >= 1; left--) {
                Edges.due("undo", left, x.undo());
                Edges.due("the digger is there", 1, x.count(1));
            }
            Edges.due("undo", 0, x.undo());
            Edges.due("the digger is not", 0, x.count(1));
        });
        Edges.test("Terms: each method that does not throw an exception (who throws saves nothing)", () -> {
            FineScrip x = Edges.evenCamp(1);
            x.undo();
            int saved = x.count(16);
            Edges.refusedHere("stake", Edges.STATE, x, y -> y.stake(0, 0));
            Edges.refusedHere("weigh", Edges.ARGUMENT, x, y -> y.weigh(0, 0));
            Edges.refusedHere("melt", Edges.STATE, x, FineScrip::melt);
            Edges.refusedHere("live", Edges.ARGUMENT, x, FineScrip::live);
            Edges.refusedHere("goBack", Edges.STATE, x, y -> y.goBack(0));
            Edges.due("saved", saved, x.count(16));
        });
        Edges.test("Terms: all, also what is counted so far", () -> {
            Edges.undoable("much", Edges::busy, y -> {
                int done = Edges.live(y, "0w9;1w300;2g1;m;1w1;n;n;0w7");
                Edges.write(y, Edges.BUSY_TEXT);
                return done;
            });
            FineScrip x = Edges.evenCamp(1);
            x.pass(6);
            x.pass(1);
            Edges.due("lapsed", 1, x.claim(0, 4));
            x.undo();
            Edges.due("not lapsed", 0, x.claim(0, 4));
            Edges.due("not lapsed", 0, x.diggerOf(0, 2));
            Edges.due("six days", 6, x.claim(0, 2));
            x.weigh(0, 5);
            x.undo();
            Edges.due("weighings", 0, x.count(7));
            Edges.due("paid", 0, x.count(10));
            Edges.due("grains of the claim", 0, x.claim(0, 3));
            Edges.due("not weighed in on this day", 1, x.pass(1));
        });
        Edges.test("Terms: but the buffer, the slots and the saved states", () -> {
            FineScrip x = new FineScrip();
            x.pass(1);
            x.pass(2);
            x.keep(1);
            Edges.write(x, "n;n");
            Edges.due("one is left", 1, x.undo());
            Edges.due("the buffer stays", 3, x.clearBuffer());
            Edges.due("the slot stays", 3, x.goBack(1));
            Edges.due("saved", 2, x.count(16));
        });
        Edges.test("Terms: At most 6 states are saved", () -> {
            FineScrip x = new FineScrip();
            for (int i = 1; i <= 20; i++) {
                x.pass(1);
                Edges.due("saved behind " + i, i < 6 ? i : 6, x.count(16));
            }
        });
        Edges.test("Terms: the oldest one is dropped first", () -> {
            for (int calls = 1; calls <= 20; calls++) {
                FineScrip x = new FineScrip();
                for (int i = 0; i < calls; i++) {
                    x.pass(1);
                }
                int undone = calls < 6 ? calls : 6;
                for (int i = 1; i <= undone; i++) {
                    x.undo();
                    Edges.due("the day behind " + calls + " calls and undo " + i, calls - i, x.count(0));
                }
                Edges.refusedHere("one undo more", Edges.STATE, x, FineScrip::undo);
            }
        });
    }

    private static void use() {
        Edges.test("What it is: An object is used for at most 512 calls", () -> {
            FineScrip x = Edges.evenCamp(1);
            x.set(4, 99);
            // These were six calls; the 512th is the look.
            for (int i = 0; i < 505; i++) {
                x.weigh(0, 1);
            }
            Edges.due("the last call", 505, x.diggerOf(0, 3));
        });
    }

    public static void main(String[] args) {
        roundedDown();
        diggersAndClaims();
        theScale();
        whatIsPaid();
        lotAndBars();
        days();
        settings();
        inputText();
        snapshots();
        savedStates();
        use();
        Edges.end();
    }
}
