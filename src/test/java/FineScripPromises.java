/** Each promise by ordinary calls, by the edges that the document names, and by wrong calls. */
public final class FineScripPromises {
    private interface Call {
        long answer();
    }

    private static int wrong = 0;

    private static void due(String what, long want, long got) {
        if (got != want) {
            wrong++;
            System.out.println(what + " answered " + got + ", due is " + want);
        }
    }

    private static void dueShare(String what, double want, double got) {
        if (got != want) {
            wrong++;
            System.out.println(what + " answered " + got + ", due is " + want);
        }
    }

    /** The call is due to throw just this exception and to change nothing. */
    private static void refused(String what, FineScrip x, Class<?> want, Call call) {
        long before = x.digest();
        Class<?> got = null;
        try {
            call.answer();
        } catch (RuntimeException e) {
            got = e.getClass();
        }
        if (got != want) {
            wrong++;
            System.out.println(what + " threw " + got + ", due is " + want);
        }
        due(what + ", digest behind it", before, x.digest());
    }

    private static void noIndex(String what, FineScrip x, Call call) {
        refused(what, x, IndexOutOfBoundsException.class, call);
    }

    private static void noArgument(String what, FineScrip x, Call call) {
        refused(what, x, IllegalArgumentException.class, call);
    }

    private static void noState(String what, FineScrip x, Call call) {
        refused(what, x, IllegalStateException.class, call);
    }

    private static void write(FineScrip x, String text) {
        x.clearBuffer();
        for (int i = 0; i < text.length(); i++) {
            x.append(text.charAt(i));
        }
    }

    /** A camp with so many diggers; the digger n has the claim n. */
    private static FineScrip camp(int diggers) {
        FineScrip x = new FineScrip();
        for (int i = 0; i < diggers; i++) {
            x.digger();
            x.stake(i, i);
        }
        return x;
    }

    /** A camp whose store paid one cent more than what is fine is worth. */
    private static FineScrip oneCentLost() {
        FineScrip x = camp(1);
        x.set(0, 1000);
        x.set(1, 10);
        x.vein(0, 999);
        x.weigh(0, 10);
        return x;
    }

    private static void p1NewObject() {
        due("1 NONE", -1, FineScrip.NONE);
        FineScrip x = new FineScrip();
        for (int what = 0; what <= 16; what++) {
            due("1 count(" + what + ")", what == 6 ? 50 : 0, x.count(what));
        }
        int[] settings = {750, 40, 5, 7, 10};
        for (int i = 0; i < 5; i++) {
            due("1 setting(" + i + ")", settings[i], x.setting(i));
        }
        for (int i = 0; i < 10; i++) {
            due("1 claim fineness", 800, x.claim(i, 0));
            due("1 claim digger", -1, x.claim(i, 1));
            for (int what = 2; what <= 4; what++) {
                due("1 claim " + what, 0, x.claim(i, what));
            }
        }
        due("1 firstError", 0, x.firstError());
        noState("1 slot 0", x, () -> x.goBack(0));
        noState("1 slot 1", x, () -> x.goBack(1));
        noState("1 undo", x, x::undo);
        noArgument("1 live", x, x::live);
        due("1 clearBuffer", 0, x.clearBuffer());
    }

    private static void p2Digger() {
        FineScrip x = new FineScrip();
        for (int i = 0; i < 8; i++) {
            due("2 digger", i, x.digger());
            due("2 count", i + 1, x.count(1));
            due("2 saved", Math.min(i + 1, 6), x.count(16));
            for (int what = 0; what <= 8; what++) {
                due("2 property " + what, what == 2 ? -1 : 0, x.diggerOf(i, what));
            }
        }
        noState("2 the ninth", x, x::digger);
        due("2 undo", 5, x.undo());
        due("2 undone", 7, x.count(1));
        due("2 again", 7, x.digger());
    }

    private static void p3Stake() {
        FineScrip x = new FineScrip();
        noIndex("3 no digger", x, () -> x.stake(0, 10));
        x.digger();
        x.digger();
        noIndex("3 -1", x, () -> x.stake(-1, 0));
        noIndex("3 2", x, () -> x.stake(2, 0));
        noArgument("3 claim -1", x, () -> x.stake(0, -1));
        noArgument("3 claim 10", x, () -> x.stake(0, 10));
        due("3 stake", 1, x.stake(1, 9));
        due("3 saved", 3, x.count(16));
        due("3 the claim's", 1, x.claim(9, 1));
        due("3 the digger's", 9, x.diggerOf(1, 2));
        noArgument("3 claim 10 of one with a claim", x, () -> x.stake(1, 10));
        noState("3 one with a claim", x, () -> x.stake(1, 0));
        noState("3 a claim with one", x, () -> x.stake(0, 9));
        due("3 stake", 2, x.stake(0, 0));
        x.undo();
        due("3 undone", -1, x.claim(0, 1));
        due("3 undone", -1, x.diggerOf(0, 2));
    }

    private static void p4Leave() {
        FineScrip x = new FineScrip();
        noIndex("4 no digger", x, () -> x.leave(0));
        x.digger();
        noIndex("4 -1", x, () -> x.leave(-1));
        noState("4 without a claim", x, () -> x.leave(0));
        x.stake(0, 4);
        x.pass(3);
        due("4 days", 3, x.claim(4, 2));
        due("4 leave", 4, x.leave(0));
        due("4 saved", 4, x.count(16));
        due("4 days", 0, x.claim(4, 2));
        due("4 the claim's", -1, x.claim(4, 1));
        due("4 the digger's", -1, x.diggerOf(0, 2));
        due("4 taken", 0, x.count(2));
        due("4 no lapse", 0, x.claim(4, 4));
        noState("4 again", x, () -> x.leave(0));
        x.undo();
        due("4 undone", 3, x.claim(4, 2));
        due("4 undone", 0, x.claim(4, 1));
        due("4 leave", 4, x.leave(0));
        due("4 anew", 1, x.stake(0, 4));
        due("4 anew", 0, x.claim(4, 2));
    }

    private static void p5Vein() {
        FineScrip x = camp(1);
        noArgument("5 claim -1", x, () -> x.vein(-1, 800));
        noArgument("5 claim 10", x, () -> x.vein(10, 800));
        noArgument("5 fineness 499", x, () -> x.vein(0, 499));
        noArgument("5 fineness 1001", x, () -> x.vein(0, 1001));
        x.weigh(0, 1000);
        int saved = x.count(16);
        due("5 vein", 800, x.vein(0, 500));
        due("5 saved", saved + 1, x.count(16));
        due("5 vein", 500, x.vein(0, 1000));
        due("5 the lot stays", 800, x.count(4));
        due("5 the digger's stays", 800, x.diggerOf(0, 4));
        x.weigh(0, 10);
        due("5 the lot", 810, x.count(4));
        due("5 vein 9", 800, x.vein(9, 999));
        due("5 claim 9", 999, x.claim(9, 0));
        x.undo();
        due("5 undone", 800, x.claim(9, 0));
    }

    private static void p6Weigh() {
        FineScrip x = new FineScrip();
        noIndex("6 no digger", x, () -> x.weigh(0, 0));
        x.digger();
        noIndex("6 -1", x, () -> x.weigh(-1, 5));
        noIndex("6 1", x, () -> x.weigh(1, 5));
        noArgument("6 grains 0", x, () -> x.weigh(0, 0));
        noArgument("6 grains 10000", x, () -> x.weigh(0, 10000));
        noState("6 no claim", x, () -> x.weigh(0, 1));
        x.stake(0, 3);
        noArgument("6 grains 0", x, () -> x.weigh(0, 0));
        // 777 * 750 / 1000 = 582; 582 * 40 / 10 = 2328; the fee 116; fine 621.
        due("6 weigh", 2212, x.weigh(0, 777));
        due("6 saved", 3, x.count(16));
        due("6 scrip", 2212, x.diggerOf(0, 0));
        due("6 grains", 777, x.diggerOf(0, 3));
        due("6 fine", 621, x.diggerOf(0, 4));
        due("6 paid", 2212, x.diggerOf(0, 5));
        due("6 fees", 116, x.diggerOf(0, 6));
        due("6 claim grains", 777, x.claim(3, 3));
        due("6 lot", 777, x.count(3));
        due("6 lot fine", 621, x.count(4));
        due("6 weighings", 1, x.count(7));
        due("6 one grain", 0, x.weigh(0, 1));
        x.undo();
        due("6 undone", 777, x.count(3));
    }

    private static void p6Debt() {
        FineScrip x = camp(1);
        x.set(0, 1000);
        x.set(1, 10);
        x.set(2, 0);
        x.buy(0, 100);
        due("6 odd pay", 31, x.weigh(0, 31));
        due("6 half goes to the debt", 85, x.diggerOf(0, 1));
        due("6 the rest to the scrip", 16, x.diggerOf(0, 0));
        due("6 pay", 171, x.weigh(0, 171));
        due("6 half is the debt", 0, x.diggerOf(0, 1));
        due("6 scrip", 16 + 86, x.diggerOf(0, 0));
        x.buy(0, 103);
        due("6 pay", 9000, x.weigh(0, 9000));
        due("6 no more than the debt", 0, x.diggerOf(0, 1));
        due("6 scrip", 8999, x.diggerOf(0, 0));
    }

    private static void p6Scale() {
        FineScrip x = camp(1);
        x.set(4, 3);
        for (int i = 1; i <= 9; i++) {
            x.weigh(0, 1);
            due("6 error behind " + i, 50 + i / 3, x.count(6));
            due("6 count behind " + i, i, x.count(7));
        }
        // Told 1003: 752, 3008, fee 150.
        due("6 told more", 2858, x.weigh(0, 1000));
        due("6 the true weight lies in the lot", 1009, x.count(3));
        x.set(4, 5);
        x.adjust(-50);
        // Told 950: 712, 2848, fee 142.
        due("6 told less", 2706, x.weigh(0, 1000));
        x.adjust(49);
        x.set(4, 1);
        x.weigh(0, 1);
        due("6 the most", 100, x.count(6));
        x.weigh(0, 1);
        due("6 50 is the most", 100, x.count(6));
        due("6 counted", 2, x.count(7));
    }

    private static void p6LotLimit() {
        FineScrip x = camp(1);
        for (int i = 0; i < 10; i++) {
            x.weigh(0, 9999);
        }
        due("6 lot", 99990, x.count(3));
        noState("6 one too many", x, () -> x.weigh(0, 10));
        noArgument("6 grains before the lot", x, () -> x.weigh(0, 10000));
        x.weigh(0, 9);
        due("6 full", 99999, x.count(3));
        noState("6 full", x, () -> x.weigh(0, 1));
        x.melt();
        due("6 anew", 28523, x.weigh(0, 9999));
    }

    private static void p7Buy() {
        FineScrip x = new FineScrip();
        noIndex("7 no digger", x, () -> x.buy(0, 0));
        x.digger();
        noIndex("7 -1", x, () -> x.buy(-1, 1));
        noIndex("7 1", x, () -> x.buy(1, 1));
        noArgument("7 cents 0", x, () -> x.buy(0, 0));
        noArgument("7 cents 10000", x, () -> x.buy(0, 10000));
        noState("7 5001", x, () -> x.buy(0, 5001));
        due("7 buy", 4999, x.buy(0, 4999));
        due("7 saved", 2, x.count(16));
        due("7 buy", 5000, x.buy(0, 1));
        noState("7 one more", x, () -> x.buy(0, 1));
        noArgument("7 cents before debt", x, () -> x.buy(0, 10000));
        due("7 goods", 5000, x.diggerOf(0, 7));
        x.undo();
        due("7 undone", 4999, x.diggerOf(0, 1));
        FineScrip y = camp(1);
        y.weigh(0, 1000);
        due("7 from the scrip", 0, y.buy(0, 2849));
        due("7 left", 1, y.diggerOf(0, 0));
        due("7 what the scrip lacks", 9, y.buy(0, 10));
        due("7 nothing left", 0, y.diggerOf(0, 0));
        due("7 goods", 2859, y.diggerOf(0, 7));
        y.weigh(0, 100);
        due("7 debt", 0, y.diggerOf(0, 1));
        due("7 just all scrip", 0, y.buy(0, 276));
        due("7 just all scrip", 0, y.diggerOf(0, 0));
    }

    private static void p8Melt() {
        FineScrip x = camp(2);
        noState("8 empty", x, x::melt);
        x.vein(1, 501);
        x.weigh(0, 1000);
        x.weigh(1, 999);
        due("8 melt", 0, x.melt());
        due("8 saved", 6, x.count(16));
        due("8 weight", 1999, x.bar(0, 0));
        due("8 fine", 1300, x.bar(0, 1));
        due("8 prices", 3000 + 2996, x.bar(0, 3));
        due("8 lot", 0, x.count(3));
        due("8 lot fine", 0, x.count(4));
        due("8 bars", 1, x.count(5));
        noState("8 empty again", x, x::melt);
        for (int i = 1; i < 12; i++) {
            x.weigh(0, 10 * i);
            due("8 melt", i, x.melt());
            due("8 only what was weighed in since", 10 * i, x.bar(i, 0));
            due("8 only its price", 10 * i * 3 / 4 * 4, x.bar(i, 3));
        }
        x.weigh(0, 10);
        noState("8 the thirteenth", x, x::melt);
        x.undo();
        x.undo();
        due("8 undone", 11, x.count(5));
        due("8 undone", 110, x.count(3));
        due("8 again", 11, x.melt());
        due("8 the price came back", 82 * 4, x.bar(11, 3));
    }

    private static void p9Adjust() {
        FineScrip x = camp(1);
        noArgument("9 -51", x, () -> x.adjust(-51));
        noArgument("9 51", x, () -> x.adjust(51));
        x.weigh(0, 100);
        due("9 adjust", 0, x.adjust(-50));
        due("9 saved", 4, x.count(16));
        due("9 error", 0, x.count(6));
        due("9 counted anew", 0, x.count(7));
        due("9 without its sign", 50, x.adjust(50));
        due("9 error", 100, x.count(6));
        due("9 adjust", 50, x.adjust(0));
        x.undo();
        x.adjust(-1);
        due("9 without its sign", 1, x.adjust(50));
        due("9 undone", 100, x.count(6));
        x.set(4, 2);
        x.adjust(7);
        x.weigh(0, 1);
        x.adjust(7);
        x.weigh(0, 1);
        due("9 the weighings begin anew", 57, x.count(6));
        x.undo();
        x.undo();
        due("9 undone", 1, x.count(7));
    }

    private static void p10Pass() {
        FineScrip x = camp(2);
        noArgument("10 0", x, () -> x.pass(0));
        noArgument("10 31", x, () -> x.pass(31));
        x.pass(1);
        due("10 day", 1, x.count(0));
        due("10 days", 1, x.claim(0, 2));
        x.weigh(0, 5);
        due("10 days stay until a day goes by", 1, x.claim(0, 2));
        due("10 none", 0, x.pass(1));
        due("10 worked", 0, x.claim(0, 2));
        due("10 not worked", 2, x.claim(1, 2));
        due("10 without a digger", 0, x.claim(5, 2));
        due("10 none", 0, x.pass(4));
        due("10 one", 1, x.pass(1));
        due("10 lapsed", -1, x.claim(1, 1));
        due("10 lapsed", -1, x.diggerOf(1, 2));
        due("10 lapsed", 0, x.claim(1, 2));
        due("10 lapsed", 1, x.claim(1, 4));
        due("10 not lapsed", 5, x.claim(0, 2));
        int saved = x.count(16);
        due("10 saved", 6, saved);
        due("10 the other", 1, x.pass(30));
        due("10 lapsed once", 1, x.claim(0, 4));
        due("10 day", 37, x.count(0));
        x.undo();
        due("10 undone as one call", 7, x.count(0));
        due("10 undone", 5, x.claim(0, 2));
    }

    private static void p10Lapses() {
        FineScrip x = camp(1);
        x.set(3, 1);
        x.weigh(0, 5);
        due("10 worked", 0, x.pass(1));
        due("10 the next day", 1, x.pass(1));
        x.stake(0, 0);
        x.weigh(0, 5);
        x.leave(0);
        x.stake(0, 0);
        due("10 weighed in before it was taken", 1, x.pass(1));
        x.set(3, 30);
        x.stake(0, 0);
        due("10 thirty", 0, x.pass(29));
        due("10 days", 29, x.claim(0, 2));
        x.set(3, 3);
        x.weigh(0, 5);
        due("10 worked", 0, x.pass(1));
        x.set(3, 30);
        x.pass(10);
        x.set(3, 3);
        due("10 more than the setting", 1, x.pass(1));
        due("10 lapses", 3, x.claim(0, 4));
        due("10 grains stay", 15, x.claim(0, 3));
        FineScrip y = camp(8);
        due("10 all lapse", 8, y.pass(30));
        due("10 none has a digger", 0, y.count(2));
    }

    private static void p10LastDay() {
        FineScrip x = new FineScrip();
        for (int i = 0; i < 333; i++) {
            x.pass(30);
        }
        noState("10 10000", x, () -> x.pass(10));
        noArgument("10 days before the day", x, () -> x.pass(31));
        x.pass(8);
        write(x, "n;n");
        due("15 one day more", 1, x.live());
        due("10 the last day", 9999, x.count(0));
        noState("10 above", x, () -> x.pass(1));
        write(x, "n");
        due("15 no day more", 0, x.live());
        due("15 no day more", 9999, x.count(0));
    }

    private static void p11Set() {
        FineScrip x = new FineScrip();
        noIndex("11 -1", x, () -> x.set(-1, -1));
        noIndex("11 5", x, () -> x.set(5, 10));
        int[] least = {500, 1, 0, 1, 1};
        int[] most = {1000, 999, 50, 30, 99};
        int[] first = {750, 40, 5, 7, 10};
        for (int i = 0; i < 5; i++) {
            int setting = i;
            noArgument("11 below " + i, x, () -> x.set(setting, least[setting] - 1));
            noArgument("11 above " + i, x, () -> x.set(setting, most[setting] + 1));
            due("11 set", first[i], x.set(i, least[i]));
            due("11 set", least[i], x.setting(i));
            due("11 set", least[i], x.set(i, most[i]));
            due("11 set", most[i], x.setting(i));
        }
        due("11 saved", 6, x.count(16));
        x.undo();
        due("11 undone", 1, x.setting(4));
    }

    private static void p12Append() {
        FineScrip x = new FineScrip();
        noArgument("12 32", x, () -> x.append(32));
        noArgument("12 127", x, () -> x.append(127));
        noArgument("12 an order's sign and 65536", x, () -> x.append('m' + 65536));
        for (int i = 1; i <= 60; i++) {
            due("12 append", i, x.append(i % 2 == 0 ? 33 : 126));
        }
        noState("12 full", x, () -> x.append(33));
        noArgument("12 code before full", x, () -> x.append(32));
        due("12 not undoable", 0, x.count(16));
        due("13 clear", 60, x.clearBuffer());
        due("12 anew", 1, x.append('m'));
    }

    private static void p13ClearBuffer() {
        FineScrip x = new FineScrip();
        due("13 empty", 0, x.clearBuffer());
        write(x, "0w5");
        due("13 three", 3, x.clearBuffer());
        due("13 none left", 0, x.clearBuffer());
        due("13 not undoable", 0, x.count(16));
    }

    private static void error(String text, int want) {
        FineScrip x = new FineScrip();
        write(x, text);
        long before = x.digest();
        due("14 " + text, want, x.firstError());
        due("14 changes nothing", before, x.digest());
    }

    private static void p14FirstError() {
        String[] right = {"", "m", "n", "0", "7", "0w", "0w1", "0w9999", "0c", "0c0", "7c9", "0g", "7g1000",
            "m;", "m;n", "0w1;", "0w12;7c3;1g1;m;n;", "0w1234;m", "n;n;n;n", "3g10;4w205"};
        for (String text : right) {
            error(text, text.length());
        }
        error("8", 0);
        error("9w1", 0);
        error(";", 0);
        error("w", 0);
        error("M", 0);
        error("/", 0);
        error(":", 0);
        error("mm", 1);
        error("m1", 1);
        error("00", 1);
        error("0m", 1);
        error("0n", 1);
        error("0W", 1);
        error("0w0", 2);
        error("0g0", 2);
        error("0w;", 2);
        error("0wm", 2);
        error("0c;", 2);
        error("0ca", 2);
        error("0c10", 3);
        error("0w1m", 3);
        error("0w10000", 6);
        error("0g99999", 6);
        error("m;;", 2);
        error("m;8w1", 2);
        error("0w1;0c2;x", 8);
        error("0w12/", 4);
        error("0w12:", 4);
        error("0c/", 2);
        error("0c:", 2);
        String longest = "0w1;0w1;0w1;0w1;0w1;0w1;0w1;0w1;0w1;0w1;0w1;0w1;0w1;0w1;0w1;";
        error(longest, 60);
        error(longest.substring(0, 58) + "w1", 58);
    }

    private static void p15Live() {
        FineScrip x = new FineScrip();
        String[] none = {"", "0", "0w", "0c", "0g", "m;", "8w1", "0w0", "n;n;", "n;;n", "nn"};
        for (String text : none) {
            write(x, text);
            noArgument("15 " + text, x, x::live);
            due("15 the buffer stays", text.length(), x.clearBuffer());
        }
        x.digger();
        x.digger();
        write(x, "0c9;0w1000;1g250;m;n;n;1w5;0w7");
        due("15 up to the first that throws", 6, x.live());
        due("15 the buffer is cleared", 0, x.clearBuffer());
        due("15 saved as one call", 3, x.count(16));
        due("15 taken", 0, x.claim(9, 1));
        due("15 weighed in", 2850, x.diggerOf(0, 0));
        due("15 bought", 250, x.diggerOf(1, 1));
        due("15 melted", 1000, x.bar(0, 0));
        due("15 days", 2, x.count(0));
        due("15 none behind it", 0, x.count(3));
        write(x, "n");
        due("15 undo", 2, x.undo());
        due("15 undone as one call", 0, x.count(0));
        due("15 undone", -1, x.claim(9, 1));
        due("15 undone", 0, x.count(5));
        due("15 undo leaves the buffer", 1, x.clearBuffer());
        write(x, "m;n;n");
        due("15 none is done", 0, x.live());
        due("15 saved also then", 3, x.count(16));
        due("15 cleared also then", 0, x.clearBuffer());
        due("15 nothing is done", 0, x.count(0));
    }

    private static void p15Refusals() {
        FineScrip x = camp(2);
        String[] refusedTexts = {"7w5", "7c5", "7g5", "0c5", "m", "0g5001"};
        for (String text : refusedTexts) {
            write(x, text + ";n");
            due("15 " + text, 0, x.live());
        }
        x.leave(1);
        write(x, "1c0;n");
        due("15 a claim with a digger", 0, x.live());
        write(x, "1w5;n");
        due("15 without a claim", 0, x.live());
        write(x, "1g5000;1g1");
        due("15 debt", 1, x.live());
        write(x, "0w9999;0w9999;0w9999;0w9999;0w9999;0w9999;0w9999;0w9999");
        due("15 eight", 8, x.live());
        write(x, "0w9999;0w9999;0w10;n");
        due("15 lot", 2, x.live());
        write(x, "0w9;m;0w1;m;0w1;m;0w1;m;0w1;m;0w1;m;0w1;m;0w1;m;0w1;m;0w1;m");
        due("15 twenty", 20, x.live());
        due("15 bars", 10, x.count(5));
        write(x, "0w1;m;0w1;m;0w1;m;n");
        due("15 bars", 5, x.live());
        write(x, "n;n;n;n;n;n;n;n;n;n;n;n;n;n;n;n;n;n;n;n;n;n;n;n;n;n;n;n;n;n");
        due("15 thirty", 30, x.live());
        due("15 lapsed", 1, x.claim(0, 4));
    }

    private static void p16Keep() {
        FineScrip x = camp(1);
        noArgument("16 -1", x, () -> x.keep(-1));
        noArgument("16 2", x, () -> x.keep(2));
        x.pass(3);
        int saved = x.count(16);
        due("16 keep", 3, x.keep(1));
        due("16 not undoable", saved, x.count(16));
        noState("16 the other slot", x, () -> x.goBack(0));
        x.weigh(0, 100);
        x.pass(1);
        due("16 in place of it", 4, x.keep(1));
        x.pass(1);
        due("17 back", 4, x.goBack(1));
        due("17 back", 100, x.count(3));
        x.undo();
        due("16 undo leaves the slots", 4, x.goBack(1));
    }

    private static void p17GoBack() {
        FineScrip x = camp(2);
        noArgument("17 -1", x, () -> x.goBack(-1));
        noArgument("17 2", x, () -> x.goBack(2));
        noState("17 none", x, () -> x.goBack(0));
        x.vein(0, 900);
        x.weigh(0, 1000);
        x.buy(1, 77);
        x.melt();
        x.weigh(0, 10);
        x.adjust(4);
        x.weigh(0, 10);
        x.set(1, 50);
        x.pass(2);
        write(x, "0w5");
        x.keep(0);
        long kept = x.digest();
        x.leave(0);
        x.vein(0, 500);
        x.digger();
        x.stake(0, 7);
        x.weigh(0, 500);
        x.melt();
        x.set(1, 60);
        x.adjust(-4);
        x.pass(9);
        int saved = x.count(16);
        due("17 saved before", 6, saved);
        due("17 back", 2, x.goBack(0));
        due("17 all is as it was", kept, x.digest());
        due("17 stays", 2, x.goBack(0));
        x.undo();
        due("17 undoable", 4, x.undo());
        due("17 undone", 11, x.count(0));
        due("17 undone", 3, x.count(1));
        x.clearBuffer();
        x.goBack(0);
        due("17 leaves the buffer", 0, x.clearBuffer());
        x.weigh(0, 1);
        x.goBack(0);
        write(x, "0w5");
        due("17 what comes behind does not touch it", 6, x.count(16));
        due("17 what comes behind does not touch it", kept, x.digest());
    }

    private static void p18Undo() {
        FineScrip x = new FineScrip();
        noState("18 none", x, x::undo);
        long[] digests = new long[9];
        for (int i = 0; i < 8; i++) {
            digests[i] = x.digest() - x.count(16);
            x.digger();
        }
        for (int i = 5; i >= 0; i--) {
            due("18 undo", i, x.undo());
            due("18 diggers", i + 2, x.count(1));
        }
        noState("18 only six", x, x::undo);
        due("18 the oldest are dropped", 2, x.count(1));
        x.set(0, 750);
        due("18 saved though nothing changes", 1, x.count(16));
        x.keep(0);
        x.append('m');
        due("18 undo", 0, x.undo());
        due("18 leaves the slots", 0, x.goBack(0));
        due("18 leaves the buffer", 1, x.clearBuffer());
    }

    private static void p18AllIsRestored() {
        FineScrip x = camp(2);
        x.weigh(0, 100);
        x.pass(1);
        x.weigh(1, 50);
        x.melt();
        x.weigh(0, 60);
        x.buy(1, 900);
        x.keep(1);
        x.set(4, 9);
        // With six saved states the count of them would be another one behind the undo.
        x.undo();
        long before = x.digest();
        due("18 five are saved", 5, x.count(16));
        write(x, "1w7;m;0g5000;n;n;n;n;n;n;n;n;0c5;1c6");
        x.live();
        x.undo();
        due("18 all, also what is counted", before, x.digest());
        // Weighed in today stays so, too.
        x.pass(1);
        due("18 weighed in today", 0, x.claim(0, 2));
    }

    private static void p18Bars() {
        FineScrip x = camp(1);
        x.weigh(0, 100);
        x.melt();
        x.keep(0);
        x.undo();
        x.weigh(0, 900);
        due("18 the bar is another one", 0, x.melt());
        due("18 the bar is another one", 1000, x.bar(0, 0));
        x.goBack(0);
        due("17 the bar is as it was", 100, x.bar(0, 0));
        x.undo();
        due("18 and again", 1000, x.bar(0, 0));
        due("18 and again", 800, x.bar(0, 1));
        due("18 and again", 3000, x.bar(0, 3));
    }

    private static void p19DiggerOf() {
        FineScrip x = new FineScrip();
        noIndex("19 none", x, () -> x.diggerOf(0, 9));
        x.digger();
        noIndex("19 -1", x, () -> x.diggerOf(-1, 0));
        noIndex("19 1", x, () -> x.diggerOf(1, 0));
        noArgument("19 what -1", x, () -> x.diggerOf(0, -1));
        noArgument("19 what 9", x, () -> x.diggerOf(0, 9));
        x.stake(0, 6);
        x.vein(6, 700);
        x.weigh(0, 1000);
        x.buy(0, 2860);
        x.weigh(0, 100);
        long[] want = {285 - 10, 0, 6, 1100, 770, 2850 + 285, 150 + 15, 2860, 1};
        for (int what = 0; what <= 8; what++) {
            due("19 what " + what, want[what], x.diggerOf(0, what));
        }
        x.vein(6, 1000);
        x.weigh(0, 220);
        due("19 paid and fees are the worth", 0, x.diggerOf(0, 8));
        x.set(1, 39);
        due("19 by setting 1 as it is", 1, x.diggerOf(0, 8));
        FineScrip y = oneCentLost();
        due("19 one cent lost", 1, y.diggerOf(0, 8));
    }

    private static void p20Claim() {
        FineScrip x = camp(2);
        noArgument("20 -1", x, () -> x.claim(-1, 0));
        noArgument("20 10", x, () -> x.claim(10, 0));
        noArgument("20 what -1", x, () -> x.claim(0, -1));
        noArgument("20 what 5", x, () -> x.claim(0, 5));
        x.vein(1, 654);
        x.weigh(1, 30);
        x.pass(3);
        x.weigh(1, 12);
        long[] want = {654, 1, 2, 42, 0};
        for (int what = 0; what <= 4; what++) {
            due("20 what " + what, want[what], x.claim(1, what));
        }
        x.pass(30);
        long[] lapsed = {654, -1, 0, 42, 1};
        for (int what = 0; what <= 4; what++) {
            due("20 lapsed, what " + what, lapsed[what], x.claim(1, what));
        }
    }

    private static void p21Bar() {
        FineScrip x = camp(1);
        noIndex("21 none", x, () -> x.bar(0, 5));
        x.vein(0, 777);
        x.weigh(0, 1111);
        x.melt();
        noIndex("21 -1", x, () -> x.bar(-1, 0));
        noIndex("21 1", x, () -> x.bar(1, 0));
        noArgument("21 what -1", x, () -> x.bar(0, -1));
        noArgument("21 what 5", x, () -> x.bar(0, 5));
        long[] want = {1111, 863, 776, 3332, 3452};
        for (int what = 0; what <= 4; what++) {
            due("21 what " + what, want[what], x.bar(0, what));
        }
        x.set(1, 51);
        due("21 by setting 1 as it is", 4401, x.bar(0, 4));
        due("21 the prices stay", 3332, x.bar(0, 3));
        x.weigh(0, 1);
        x.melt();
        due("21 nothing fine", 0, x.bar(1, 2));
        x.vein(0, 1000);
        x.weigh(0, 1);
        x.melt();
        due("21 all is fine", 1000, x.bar(2, 2));
    }

    private static void p22Count() {
        FineScrip x = camp(3);
        noArgument("22 -1", x, () -> x.count(-1));
        noArgument("22 17", x, () -> x.count(17));
        x.vein(1, 600);
        x.weigh(0, 1000);
        x.melt();
        x.weigh(1, 500);
        x.buy(0, 3000);
        x.buy(2, 40);
        x.adjust(3);
        x.weigh(0, 100);
        x.leave(2);
        x.pass(2);
        // The last pay: told 100, price 300, fee 15, pay 285; 142 to the debt of 150.
        long[] want = {2, 3, 2, 600, 380, 1, 53, 1, 1425 + 143, 8 + 40, 4560, 240, 3040, 1180, 1180, 4560, 6};
        for (int what = 0; what <= 16; what++) {
            due("22 what " + what, want[what], x.count(what));
        }
    }

    private static void p23Setting() {
        FineScrip x = new FineScrip();
        noIndex("23 -1", x, () -> x.setting(-1));
        noIndex("23 5", x, () -> x.setting(5));
        x.set(3, 22);
        due("23 setting", 22, x.setting(3));
        due("23 others stay", 10, x.setting(4));
    }

    private static void p24IfWeighed() {
        FineScrip x = new FineScrip();
        noArgument("24 0", x, () -> x.ifWeighed(0, 0));
        noArgument("24 10000", x, () -> x.ifWeighed(10000, 0));
        noArgument("24 what -1", x, () -> x.ifWeighed(1, -1));
        noArgument("24 what 3", x, () -> x.ifWeighed(1, 3));
        due("24 paid", 2212, x.ifWeighed(777, 0));
        due("24 fee", 116, x.ifWeighed(777, 1));
        due("24 told", 777, x.ifWeighed(777, 2));
        x.adjust(-7);
        due("24 told", 771, x.ifWeighed(777, 2));
        due("24 paid", 2312 - 115, x.ifWeighed(777, 0));
        due("24 fee", 115, x.ifWeighed(777, 1));
        x.adjust(50);
        x.set(0, 1000);
        x.set(1, 999);
        x.set(2, 50);
        due("24 most told", 10498, x.ifWeighed(9999, 2));
        due("24 most fee", 524375, x.ifWeighed(9999, 1));
        due("24 most paid", 524375, x.ifWeighed(9999, 0));
    }

    private static void p25GrainsFor() {
        FineScrip x = new FineScrip();
        noArgument("25 0", x, () -> x.grainsFor(0));
        noArgument("25 10000", x, () -> x.grainsFor(10000));
        due("25 1", 2, x.grainsFor(1));
        due("25 100", 36, x.grainsFor(100));
        due("25 9999", 3510, x.grainsFor(9999));
    }

    private static void p26Worst() {
        FineScrip x = camp(4);
        due("26 none", -1, x.worst());
        x.weigh(0, 1000);
        due("26 none above 0", -1, x.worst());
        x.vein(1, 740);
        x.vein(2, 740);
        x.vein(3, 760);
        x.weigh(2, 1000);
        due("26 one", 2, x.worst());
        x.weigh(1, 1000);
        due("26 the lowest of several", 1, x.worst());
        x.weigh(3, 2000);
        due("26 not the one with most", 1, x.worst());
        x.weigh(2, 100);
        due("26 the greatest", 2, x.worst());
        x.set(1, 60);
        due("26 by setting 1 as it is", -1, x.worst());
        x.set(1, 1);
        due("26 by setting 1 as it is", 3, x.worst());
    }

    private static void p26NothingLost() {
        FineScrip x = camp(1);
        x.vein(0, 750);
        x.weigh(0, 1000);
        due("26 just nothing is lost", -1, x.worst());
        x.vein(0, 500);
        x.weigh(0, 4);
        due("26 a little", 0, x.worst());
        due("26 one cent", 0, oneCentLost().worst());
    }

    private static void p27SafeFineness() {
        FineScrip x = new FineScrip();
        due("27 no claim has a digger", -1, x.safeFineness());
        x.vein(0, 500);
        x.digger();
        x.digger();
        x.stake(0, 4);
        due("27 only claims with diggers", 800, x.safeFineness());
        x.vein(4, 1000);
        due("27 1000", 1000, x.safeFineness());
        x.stake(1, 0);
        due("27 500", 500, x.safeFineness());
        x.adjust(1);
        due("27 told 1001: 500.5", 500, x.safeFineness());
        x.adjust(2);
        due("27 none", -1, x.safeFineness());
        x.set(1, 1);
        due("27 500 for 509: 50", 508, x.safeFineness());
        x.adjust(-50);
        x.leave(1);
        due("27 not above 1000", 1000, x.safeFineness());
        x.vein(4, 777);
        x.set(1, 40);
        due("27 scale tells less", greatestSafe(950, 777, 40), x.safeFineness());
        x.vein(4, 1000);
        x.adjust(1);
        due("27 1000 told as 1001", 999, x.safeFineness());
        x.vein(4, 777);
        x.adjust(33);
        x.set(1, 7);
        due("27 scale tells more, odd cents", greatestSafe(1033, 777, 7), x.safeFineness());
    }

    private static int greatestSafe(int told, int fineness, int cents) {
        int found = -1;
        for (int taken = 500; taken <= 1000; taken++) {
            if (told * taken / 1000 * cents / 10 <= fineness * cents / 10) {
                found = taken;
            }
        }
        return found;
    }

    private static void p28FineShare() {
        FineScrip x = camp(2);
        dueShare("28 nothing", 0.0, x.fineShare());
        x.weigh(0, 1);
        dueShare("28 nothing fine", 0.0, x.fineShare());
        x.weigh(0, 1000);
        x.melt();
        x.vein(1, 555);
        x.weigh(1, 300);
        dueShare("28 share", 966.0 / 1301, x.fineShare());
        FineScrip y = camp(1);
        y.vein(0, 1000);
        y.weigh(0, 1);
        dueShare("28 one grain", 1.0, y.fineShare());
        y.weigh(0, 7);
        dueShare("28 all", 1.0, y.fineShare());
    }

    /** The hash of the document, told by the looks. */
    private static long hashOf(FineScrip x, boolean slot0, boolean slot1, String text) {
        long hash = 3119;
        for (int what = 0; what <= 16; what++) {
            hash = 31 * hash + x.count(what);
        }
        for (int i = 0; i < 5; i++) {
            hash = 31 * hash + x.setting(i);
        }
        for (int i = 0; i < 9 * x.count(1); i++) {
            hash = 31 * hash + x.diggerOf(i / 9, i % 9);
        }
        for (int i = 0; i < 50; i++) {
            hash = 31 * hash + x.claim(i / 5, i % 5);
        }
        for (int i = 0; i < 5 * x.count(5); i++) {
            hash = 31 * hash + x.bar(i / 5, i % 5);
        }
        for (int what = 0; what <= 2; what++) {
            hash = 31 * hash + x.ifWeighed(777, what);
        }
        hash = 31 * hash + x.grainsFor(100);
        hash = 31 * hash + x.worst();
        hash = 31 * hash + x.safeFineness();
        hash = 31 * hash + Double.doubleToLongBits(x.fineShare());
        hash = 31 * hash + (slot0 ? 1 : 0);
        hash = 31 * hash + (slot1 ? 1 : 0);
        hash = 31 * hash + text.length();
        for (int i = 0; i < text.length(); i++) {
            hash = 31 * hash + text.charAt(i);
        }
        return hash;
    }

    private static void p29Digest() {
        FineScrip x = new FineScrip();
        due("29 new", hashOf(x, false, false, ""), x.digest());
        for (int i = 0; i < 3; i++) {
            x.digger();
            x.stake(i, 9 - i);
            x.vein(9 - i, 600 + 77 * i);
            x.weigh(i, 321 + i);
            x.melt();
        }
        due("29 share " + x.fineShare(), hashOf(x, false, false, ""), x.digest());
        x.keep(1);
        write(x, "0w~!");
        due("29 the second slot, a text", hashOf(x, false, true, "0w~!"), x.digest());
        long before = x.digest();
        due("29 changes nothing", before, x.digest());
    }

    private static void p29Shares() {
        for (int grains = 1; grains <= 120; grains++) {
            FineScrip x = camp(1);
            x.vein(0, grains == 1 ? 1000 : 500);
            // Of the first two grains one is fine, of each later one nothing.
            x.weigh(0, grains == 1 ? 1 : 2);
            for (int i = 3; i <= grains; i++) {
                x.weigh(0, 1);
            }
            dueShare("29 share 1/" + grains, 1.0 / grains, x.fineShare());
            due("29 share 1/" + grains, hashOf(x, false, false, ""), x.digest());
        }
    }

    public static void main(String[] args) {
        p1NewObject();
        p2Digger();
        p3Stake();
        p4Leave();
        p5Vein();
        p6Weigh();
        p6Debt();
        p6Scale();
        p6LotLimit();
        p7Buy();
        p8Melt();
        p9Adjust();
        p10Pass();
        p10Lapses();
        p10LastDay();
        p11Set();
        p12Append();
        p13ClearBuffer();
        p14FirstError();
        p15Live();
        p15Refusals();
        p16Keep();
        p17GoBack();
        p18Undo();
        p18AllIsRestored();
        p18Bars();
        p19DiggerOf();
        p20Claim();
        p21Bar();
        p22Count();
        p23Setting();
        p24IfWeighed();
        p25GrainsFor();
        p26Worst();
        p26NothingLost();
        p27SafeFineness();
        p28FineShare();
        p29Digest();
        p29Shares();
        System.out.println(wrong == 0 ? "all promises hold" : wrong + " answers are not as due");
        if (wrong != 0) {
            System.exit(1);
        }
    }
}
