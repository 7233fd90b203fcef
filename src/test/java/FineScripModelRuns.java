import java.util.ArrayDeque;
import java.util.ArrayList;
import java.util.Arrays;
import java.util.Deque;
import java.util.List;
import java.util.regex.Pattern;

/**
 * Long runs of drawn calls on the class and on a second model, which is written from the document
 * anew: each weighing is kept as a record, sums are told from the records, searches try every number.
 */
public final class FineScripModelRuns {
    private static final int RUNS = 1000;
    // What later calls answer is free.
    private static final int CALLS = 512;
    // A day of twelve orders, written and done, the digest and the looks take fewer.
    private static final int CALLS_OF_A_LONG_TURN = 110;
    private static final long INDEX = Long.MIN_VALUE;
    private static final long ARGUMENT = Long.MIN_VALUE + 1;
    private static final long STATE = Long.MIN_VALUE + 2;
    private static final long OTHER = Long.MIN_VALUE + 3;

    private record Weighing(int digger, int claim, int lot, long grains, long fine, long price, long fee) {
    }

    private record Goods(int digger, long cents) {
    }

    /** All that a snapshot holds; copied whole. */
    private static final class State {
        int day;
        int diggers;
        int bars;
        long error;
        int sinceSet;
        int[] settings = {750, 40, 5, 7, 10};
        long[] scrip = new long[8];
        long[] debt = new long[8];
        int[] fineness = new int[10];
        int[] holder = new int[10];
        int[] days = new int[10];
        int[] lapses = new int[10];
        // The days on which the holder weighed in since the claim was taken.
        List<List<Integer>> worked = new ArrayList<>();
        List<Weighing> weighings = new ArrayList<>();
        List<Goods> goods = new ArrayList<>();

        State() {
            Arrays.fill(fineness, 800);
            Arrays.fill(holder, -1);
            for (int i = 0; i < 10; i++) {
                worked.add(new ArrayList<>());
            }
        }

        State copy() {
            State c = new State();
            c.day = day;
            c.diggers = diggers;
            c.bars = bars;
            c.error = error;
            c.sinceSet = sinceSet;
            c.settings = settings.clone();
            c.scrip = scrip.clone();
            c.debt = debt.clone();
            c.fineness = fineness.clone();
            c.holder = holder.clone();
            c.days = days.clone();
            c.lapses = lapses.clone();
            c.worked = new ArrayList<>();
            for (List<Integer> days : worked) {
                c.worked.add(new ArrayList<>(days));
            }
            c.weighings = new ArrayList<>(weighings);
            c.goods = new ArrayList<>(goods);
            return c;
        }
    }

    private static final class Model {
        static final Pattern DAY = Pattern.compile("O(;O)*".replace("O", "([0-7][wg][1-9][0-9]{0,3}|[0-7]c[0-9]|m|n)"));
        static final String[] ENDS = {"", "m", "w1", "1"};

        State s = new State();
        String text = "";
        State[] slots = new State[2];
        Deque<State> saved = new ArrayDeque<>();

        void save() {
            saved.addLast(s.copy());
            if (saved.size() > 6) {
                saved.removeFirst();
            }
        }

        int claimOf(int digger) {
            for (int i = 0; i < 10; i++) {
                if (s.holder[i] == digger) {
                    return i;
                }
            }
            return -1;
        }

        long told(long grains) {
            return Math.floorDiv(grains * (1000 + s.error), 1000L);
        }

        long price(long grains, long taken) {
            return told(grains) * taken / 1000 * s.settings[1] / 10;
        }

        long fee(long grains) {
            return s.settings[2] * price(grains, s.settings[0]) / 100;
        }

        long pay(long grains) {
            return price(grains, s.settings[0]) - fee(grains);
        }

        long lot() {
            return s.weighings.stream().filter(w -> w.lot == s.bars).mapToLong(Weighing::grains).sum();
        }

        long digger() {
            if (s.diggers == 8) {
                return STATE;
            }
            save();
            return s.diggers++;
        }

        boolean no(int digger) {
            return digger < 0 || digger >= s.diggers;
        }

        long stake(int digger, int claim, boolean alone) {
            if (no(digger)) {
                return INDEX;
            }
            if (claim < 0 || claim > 9) {
                return ARGUMENT;
            }
            if (claimOf(digger) >= 0 || s.holder[claim] >= 0) {
                return STATE;
            }
            if (alone) {
                save();
            }
            s.holder[claim] = digger;
            s.days[claim] = 0;
            s.worked.get(claim).clear();
            return Arrays.stream(s.holder).filter(h -> h >= 0).count();
        }

        long leave(int digger) {
            if (no(digger)) {
                return INDEX;
            }
            int claim = claimOf(digger);
            if (claim < 0) {
                return STATE;
            }
            save();
            s.holder[claim] = -1;
            s.days[claim] = 0;
            return claim;
        }

        long vein(int claim, int fineness) {
            if (claim < 0 || claim > 9 || fineness < 500 || fineness > 1000) {
                return ARGUMENT;
            }
            save();
            int before = s.fineness[claim];
            s.fineness[claim] = fineness;
            return before;
        }

        long weigh(int digger, int grains, boolean alone) {
            if (no(digger)) {
                return INDEX;
            }
            if (grains < 1 || grains > 9999) {
                return ARGUMENT;
            }
            int claim = claimOf(digger);
            if (claim < 0 || lot() + grains > 99999) {
                return STATE;
            }
            if (alone) {
                save();
            }
            long pay = pay(grains);
            long toDebt = Math.min(pay / 2, s.debt[digger]);
            s.debt[digger] -= toDebt;
            s.scrip[digger] += pay - toDebt;
            s.weighings.add(new Weighing(digger, claim, s.bars, grains, (long) grains * s.fineness[claim] / 1000,
                price(grains, s.settings[0]), fee(grains)));
            s.worked.get(claim).add(s.day);
            s.sinceSet++;
            if (s.sinceSet % s.settings[4] == 0) {
                s.error = Math.min(50, s.error + 1);
            }
            return pay;
        }

        long buy(int digger, int cents, boolean alone) {
            if (no(digger)) {
                return INDEX;
            }
            if (cents < 1 || cents > 9999) {
                return ARGUMENT;
            }
            long lacking = Math.max(0, cents - s.scrip[digger]);
            if (s.debt[digger] + lacking > 5000) {
                return STATE;
            }
            if (alone) {
                save();
            }
            s.scrip[digger] = Math.max(0, s.scrip[digger] - cents);
            s.debt[digger] += lacking;
            s.goods.add(new Goods(digger, cents));
            return s.debt[digger];
        }

        long melt(boolean alone) {
            if (lot() == 0 || s.bars == 12) {
                return STATE;
            }
            if (alone) {
                save();
            }
            return s.bars++;
        }

        long adjust(int error) {
            if (error < -50 || error > 50) {
                return ARGUMENT;
            }
            save();
            long before = Math.abs(s.error);
            s.error = error;
            s.sinceSet = 0;
            return before;
        }

        long pass(int days, boolean alone) {
            if (days < 1 || days > 30) {
                return ARGUMENT;
            }
            if (s.day + days > 9999) {
                return STATE;
            }
            if (alone) {
                save();
            }
            long lapsed = 0;
            for (int d = 0; d < days; d++) {
                for (int c = 0; c < 10; c++) {
                    if (s.holder[c] < 0) {
                        continue;
                    }
                    s.days[c] = s.worked.get(c).contains(s.day) ? 0 : s.days[c] + 1;
                    if (s.days[c] >= s.settings[3]) {
                        s.holder[c] = -1;
                        s.days[c] = 0;
                        s.lapses[c]++;
                        lapsed++;
                    }
                }
                s.day++;
            }
            return lapsed;
        }

        long set(int setting, int value) {
            if (setting < 0 || setting > 4) {
                return INDEX;
            }
            int[][] ranges = {{500, 1000}, {1, 999}, {0, 50}, {1, 30}, {1, 99}};
            if (value < ranges[setting][0] || value > ranges[setting][1]) {
                return ARGUMENT;
            }
            save();
            int before = s.settings[setting];
            s.settings[setting] = value;
            return before;
        }

        long append(int code) {
            if (code < 33 || code > 126) {
                return ARGUMENT;
            }
            if (text.length() == 60) {
                return STATE;
            }
            text += (char) code;
            return text.length();
        }

        long clearBuffer() {
            int before = text.length();
            text = "";
            return before;
        }

        static boolean begins(String start) {
            for (String end : ENDS) {
                if (DAY.matcher(start + end).matches()) {
                    return true;
                }
            }
            return false;
        }

        long firstError() {
            for (int i = 0; i < text.length(); i++) {
                if (!begins(text.substring(0, i + 1))) {
                    return i;
                }
            }
            return text.length();
        }

        long live() {
            if (!DAY.matcher(text).matches()) {
                return ARGUMENT;
            }
            save();
            long done = 0;
            for (String order : text.split(";")) {
                if (order(order) < Long.MIN_VALUE + 10) {
                    break;
                }
                done++;
            }
            text = "";
            return done;
        }

        long order(String order) {
            if (order.equals("m")) {
                return melt(false);
            }
            if (order.equals("n")) {
                return pass(1, false);
            }
            int digger = order.charAt(0) - '0';
            int number = Integer.parseInt(order.substring(2));
            if (order.charAt(1) == 'w') {
                return weigh(digger, number, false);
            }
            return order.charAt(1) == 'c' ? stake(digger, number, false) : buy(digger, number, false);
        }

        long keep(int slot) {
            if (slot < 0 || slot > 1) {
                return ARGUMENT;
            }
            slots[slot] = s.copy();
            return s.day;
        }

        long goBack(int slot) {
            if (slot < 0 || slot > 1) {
                return ARGUMENT;
            }
            if (slots[slot] == null) {
                return STATE;
            }
            save();
            s = slots[slot].copy();
            return s.day;
        }

        long undo() {
            if (saved.isEmpty()) {
                return STATE;
            }
            s = saved.removeLast();
            return saved.size();
        }

        long worth(long fine) {
            return fine * s.settings[1] / 10;
        }

        long fineBy(int digger) {
            return s.weighings.stream().filter(w -> w.digger == digger).mapToLong(Weighing::fine).sum();
        }

        long feesBy(int digger) {
            return s.weighings.stream().filter(w -> w.digger == digger).mapToLong(Weighing::fee).sum();
        }

        long paidTo(int digger) {
            return s.weighings.stream().filter(w -> w.digger == digger).mapToLong(Weighing::price).sum() - feesBy(digger);
        }

        long loss(int digger) {
            return paidTo(digger) + feesBy(digger) - worth(fineBy(digger));
        }

        long diggerOf(int digger, int what) {
            if (no(digger)) {
                return INDEX;
            }
            return switch (what) {
                case 0 -> s.scrip[digger];
                case 1 -> s.debt[digger];
                case 2 -> claimOf(digger);
                case 3 -> s.weighings.stream().filter(w -> w.digger == digger).mapToLong(Weighing::grains).sum();
                case 4 -> fineBy(digger);
                case 5 -> paidTo(digger);
                case 6 -> feesBy(digger);
                case 7 -> s.goods.stream().filter(g -> g.digger == digger).mapToLong(Goods::cents).sum();
                case 8 -> loss(digger) > 0 ? 1 : 0;
                default -> ARGUMENT;
            };
        }

        long claim(int claim, int what) {
            if (claim < 0 || claim > 9) {
                return ARGUMENT;
            }
            return switch (what) {
                case 0 -> s.fineness[claim];
                case 1 -> s.holder[claim];
                case 2 -> s.days[claim];
                case 3 -> s.weighings.stream().filter(w -> w.claim == claim).mapToLong(Weighing::grains).sum();
                case 4 -> s.lapses[claim];
                default -> ARGUMENT;
            };
        }

        long bar(int bar, int what) {
            if (bar < 0 || bar >= s.bars) {
                return INDEX;
            }
            long weight = s.weighings.stream().filter(w -> w.lot == bar).mapToLong(Weighing::grains).sum();
            long fine = s.weighings.stream().filter(w -> w.lot == bar).mapToLong(Weighing::fine).sum();
            return switch (what) {
                case 0 -> weight;
                case 1 -> fine;
                case 2 -> 1000 * fine / weight;
                case 3 -> s.weighings.stream().filter(w -> w.lot == bar).mapToLong(Weighing::price).sum();
                case 4 -> worth(fine);
                default -> ARGUMENT;
            };
        }

        long sumOf(int what) {
            long sum = 0;
            for (int i = 0; i < s.diggers; i++) {
                sum += diggerOf(i, what);
            }
            return sum;
        }

        long count(int what) {
            return switch (what) {
                case 0 -> s.day;
                case 1 -> s.diggers;
                case 2 -> Arrays.stream(s.holder).filter(h -> h >= 0).count();
                case 3 -> lot();
                case 4 -> s.weighings.stream().filter(w -> w.lot == s.bars).mapToLong(Weighing::fine).sum();
                case 5 -> s.bars;
                case 6 -> s.error + 50;
                case 7 -> s.sinceSet;
                case 8 -> sumOf(0);
                case 9 -> sumOf(1);
                case 10, 15 -> s.weighings.stream().mapToLong(w -> w.price - w.fee).sum();
                case 11 -> s.weighings.stream().mapToLong(Weighing::fee).sum();
                case 12 -> s.goods.stream().mapToLong(Goods::cents).sum();
                case 13, 14 -> s.weighings.stream().mapToLong(Weighing::fine).sum();
                case 16 -> saved.size();
                default -> ARGUMENT;
            };
        }

        long setting(int setting) {
            return setting < 0 || setting > 4 ? INDEX : s.settings[setting];
        }

        long ifWeighed(int grains, int what) {
            if (grains < 1 || grains > 9999 || what < 0 || what > 2) {
                return ARGUMENT;
            }
            return what == 0 ? pay(grains) : what == 1 ? fee(grains) : told(grains);
        }

        long grainsFor(int cents) {
            if (cents < 1 || cents > 9999) {
                return ARGUMENT;
            }
            for (int grains = 1; grains <= 9999; grains++) {
                if (pay(grains) >= cents) {
                    return grains;
                }
            }
            return -1;
        }

        long worst() {
            long found = -1;
            long most = 0;
            for (int i = s.diggers - 1; i >= 0; i--) {
                long loss = loss(i);
                if (loss > 0 && loss >= most) {
                    most = loss;
                    found = i;
                }
            }
            return found;
        }

        long safeFineness() {
            long least = Long.MAX_VALUE;
            for (int i = 0; i < 10; i++) {
                if (s.holder[i] >= 0) {
                    least = Math.min(least, s.fineness[i]);
                }
            }
            if (least == Long.MAX_VALUE) {
                return -1;
            }
            for (int taken = 1000; taken >= 500; taken--) {
                if (price(1000, taken) <= worth(1000 * least / 1000)) {
                    return taken;
                }
            }
            return -1;
        }

        double fineShare() {
            long grains = s.weighings.stream().mapToLong(Weighing::grains).sum();
            return grains == 0 ? 0.0 : (double) count(13) / grains;
        }

        long digest() {
            List<Long> values = new ArrayList<>();
            for (int i = 0; i <= 16; i++) {
                values.add(count(i));
            }
            for (int i = 0; i < 5; i++) {
                values.add(setting(i));
            }
            for (int i = 0; i < s.diggers; i++) {
                for (int what = 0; what <= 8; what++) {
                    values.add(diggerOf(i, what));
                }
            }
            for (int i = 0; i < 10; i++) {
                for (int what = 0; what <= 4; what++) {
                    values.add(claim(i, what));
                }
            }
            for (int i = 0; i < s.bars; i++) {
                for (int what = 0; what <= 4; what++) {
                    values.add(bar(i, what));
                }
            }
            for (int what = 0; what <= 2; what++) {
                values.add(ifWeighed(777, what));
            }
            values.add(grainsFor(100));
            values.add(worst());
            values.add(safeFineness());
            values.add(Double.doubleToLongBits(fineShare()));
            values.add(slots[0] == null ? 0L : 1L);
            values.add(slots[1] == null ? 0L : 1L);
            values.add((long) text.length());
            for (char sign : text.toCharArray()) {
                values.add((long) sign);
            }
            long hash = 3119;
            for (long value : values) {
                hash = 31 * hash + value;
            }
            return hash;
        }
    }

    /** Draws numbers, always the same ones for a seed. */
    private static final class Draw {
        private long state;

        Draw(long seed) {
            state = seed * 7919 + 17;
        }

        int below(int bound) {
            state = state * 6364136223846793005L + 1442695040888963407L;
            return (int) ((state >>> 33) % bound);
        }

        /** Mostly least to most, now and then an edge or a number beyond. */
        int in(int least, int most) {
            int[] odd = {least, most, least - 1, most + 1, -1, 0, Integer.MIN_VALUE, Integer.MAX_VALUE};
            return below(12) == 0 ? odd[below(odd.length)] : least + below(most - least + 1);
        }

        int amount() {
            int[] tops = {9, 99, 999, 9999, 9999};
            return in(1, tops[below(tops.length)]);
        }

        String day() {
            StringBuilder text = new StringBuilder();
            int orders = 1 + below(12);
            for (int i = 0; i < orders; i++) {
                String amount = Integer.toString(1 + below(below(3) == 0 ? 9999 : 99));
                String[] kinds = {below(8) + "w" + amount, below(4) + "c" + below(10), below(8) + "g" + amount, "m", "n",
                    below(3) + "w" + amount};
                text.append(i == 0 ? "" : ";").append(kinds[below(kinds.length)]);
            }
            if (below(4) == 0) {
                text.setCharAt(below(text.length()), "0189wcgmn;x ".charAt(below(11)));
            }
            return text.toString();
        }
    }

    private interface Call {
        long answer();
    }

    private static int wrong = 0;
    private static int calls = 0;

    private static long of(Call call) {
        calls++;
        try {
            return call.answer();
        } catch (RuntimeException e) {
            if (e.getClass() == IndexOutOfBoundsException.class) {
                return INDEX;
            }
            if (e.getClass() == IllegalArgumentException.class) {
                return ARGUMENT;
            }
            return e.getClass() == IllegalStateException.class ? STATE : OTHER;
        }
    }

    private static void same(String what, long want, long got) {
        if (want != got) {
            wrong++;
            System.out.println(what + " answered " + got + ", the model " + want);
        }
    }

    private static void change(FineScrip x, Model m, Draw d, int kind, String at) {
        int a;
        int b;
        switch (kind) {
            case 0: same(at + " digger", m.digger(), of(x::digger)); break;
            case 1: a = d.in(0, 7); b = d.in(0, 9); same(at + " stake " + a + " " + b, m.stake(a, b, true), of(() -> x.stake(a, b))); break;
            case 2: a = d.in(0, 7); same(at + " leave " + a, m.leave(a), of(() -> x.leave(a))); break;
            case 3: a = d.in(0, 9); b = d.in(500, 1000); same(at + " vein " + a + " " + b, m.vein(a, b), of(() -> x.vein(a, b))); break;
            case 4: a = d.in(0, 7); b = d.amount(); same(at + " weigh " + a + " " + b, m.weigh(a, b, true), of(() -> x.weigh(a, b))); break;
            case 5: a = d.in(0, 7); b = d.amount(); same(at + " buy " + a + " " + b, m.buy(a, b, true), of(() -> x.buy(a, b))); break;
            case 6: same(at + " melt", m.melt(true), of(x::melt)); break;
            case 7: a = d.in(-50, 50); same(at + " adjust " + a, m.adjust(a), of(() -> x.adjust(a))); break;
            case 8: a = d.below(3) == 0 ? d.in(1, 30) : d.in(1, 4); same(at + " pass " + a, m.pass(a, true), of(() -> x.pass(a))); break;
            case 9: setOne(x, m, d, at); break;
            case 10: a = d.in(33, 126); same(at + " append " + a, m.append(a), of(() -> x.append(a))); break;
            case 11: same(at + " clearBuffer", m.clearBuffer(), of(x::clearBuffer)); break;
            case 12: same(at + " live", m.live(), of(x::live)); break;
            case 13: a = d.in(0, 1); same(at + " keep " + a, m.keep(a), of(() -> x.keep(a))); break;
            case 14: a = d.in(0, 1); same(at + " goBack " + a, m.goBack(a), of(() -> x.goBack(a))); break;
            default: same(at + " undo", m.undo(), of(x::undo)); break;
        }
    }

    private static void setOne(FineScrip x, Model m, Draw d, String at) {
        int[] tops = {1000, 999, 50, 30, 99};
        int setting = d.in(0, 4);
        int top = setting < 0 || setting > 4 ? 9 : tops[setting];
        int value = setting == 0 ? d.in(500, 1000) : d.in(1, d.below(2) == 0 ? top : 9);
        same(at + " set " + setting + " " + value, m.set(setting, value), of(() -> x.set(setting, value)));
    }

    private static void look(FineScrip x, Model m, Draw d, String at) {
        int a = d.in(0, 7);
        int b = d.in(0, 8);
        same(at + " diggerOf " + a + " " + b, m.diggerOf(a, b), of(() -> x.diggerOf(a, b)));
        int c = d.in(0, 9);
        int e = d.in(0, 4);
        same(at + " claim " + c + " " + e, m.claim(c, e), of(() -> x.claim(c, e)));
        int f = d.in(0, 11);
        same(at + " bar " + f + " " + e, m.bar(f, e), of(() -> x.bar(f, e)));
        int g = d.in(0, 16);
        same(at + " count " + g, m.count(g), of(() -> x.count(g)));
        same(at + " setting " + e, m.setting(e), of(() -> x.setting(e)));
        int h = d.amount();
        int i = d.in(0, 2);
        same(at + " ifWeighed " + h + " " + i, m.ifWeighed(h, i), of(() -> x.ifWeighed(h, i)));
        same(at + " grainsFor " + h, m.grainsFor(h), of(() -> x.grainsFor(h)));
        same(at + " worst", m.worst(), of(x::worst));
        same(at + " safeFineness", m.safeFineness(), of(x::safeFineness));
        same(at + " firstError", m.firstError(), of(x::firstError));
        same(at + " fineShare", Double.doubleToLongBits(m.fineShare()), of(() -> Double.doubleToLongBits(x.fineShare())));
    }

    /** Writes a drawn day as a text into both buffers. */
    private static void write(FineScrip x, Model m, Draw d, String at) {
        String text = d.day();
        if (d.below(4) != 0) {
            same(at + " clearBuffer", m.clearBuffer(), of(x::clearBuffer));
        }
        for (char sign : text.toCharArray()) {
            same(at + " append", m.append(sign), of(() -> x.append(sign)));
        }
        same(at + " firstError of " + m.text, m.firstError(), of(x::firstError));
        if (d.below(3) != 0) {
            same(at + " live of " + m.text, m.live(), of(x::live));
        }
    }

    private static void run(int number) {
        Draw d = new Draw(number);
        FineScrip x = new FineScrip();
        Model m = new Model();
        // More of the calls that fill a camp; each run has its own mixture.
        int[] kinds = {0, 1, 1, 1, 2, 3, 3, 4, 4, 4, 4, 4, 4, 5, 5, 6, 7, 8, 9, 9, 10, 11, 12, 13, 14, 15, 16, 16, 16};
        int favourite = d.below(17);
        calls = 0;
        while (calls + 2 <= CALLS && wrong < 20) {
            String at = "run " + number + ", call " + calls + ":";
            boolean roomForMany = calls + CALLS_OF_A_LONG_TURN <= CALLS;
            int kind = d.below(6) == 0 ? favourite : kinds[d.below(kinds.length)];
            if (kind < 16) {
                change(x, m, d, kind, at);
            } else if (roomForMany) {
                write(x, m, d, at);
            }
            same(at + " digest", m.digest(), of(x::digest));
            if (roomForMany && d.below(10) == 0) {
                look(x, m, d, at);
            }
        }
    }

    public static void main(String[] args) {
        for (int i = 0; i < RUNS && wrong < 20; i++) {
            run(i);
        }
        System.out.println(wrong == 0 ? "both models agree" : wrong + " answers differ");
        if (wrong != 0) {
            System.exit(1);
        }
    }
}
