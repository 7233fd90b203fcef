import java.util.ArrayList;
import java.util.List;

/**
 * What the tests of boundary sentences share. Calls are told as code, so that the same run can be
 * made again on a new object and the two can be compared in all that they hold.
 */
final class Edges {
    interface Calls {
        void on(FineScrip x);
    }

    interface Answer {
        long of(FineScrip x);
    }

    static final Class<?> INDEX = IndexOutOfBoundsException.class;
    static final Class<?> ARGUMENT = IllegalArgumentException.class;
    static final Class<?> STATE = IllegalStateException.class;

    static final int[] LEAST = {500, 1, 0, 1, 1};
    static final int[] MOST = {1000, 999, 50, 30, 99};
    static final int[] FIRST = {750, 40, 5, 7, 10};

    /** What stands in the buffer of the busy camp. */
    static final String BUSY_TEXT = "1w5;m";

    private static final int WAYS = 10;
    private static String sentence = "";
    private static int tests = 0;
    private static int wrong = 0;

    private Edges() {
    }

    /** The test of one sentence of the document; the sentence is told with the number of its promise. */
    static void test(String told, Runnable body) {
        sentence = told;
        tests++;
        try {
            body.run();
        } catch (RuntimeException e) {
            fault("the test ended with " + e);
        }
    }

    static void end() {
        System.out.println(wrong == 0 ? tests + " sentences hold" : wrong + " answers are not as due");
        if (wrong != 0) {
            System.exit(1);
        }
    }

    private static void fault(String what) {
        wrong++;
        System.out.println("[" + sentence + "] " + what);
    }

    static void due(String what, long want, long got) {
        if (got != want) {
            fault(what + " answered " + got + ", due is " + want);
        }
    }

    static void dueShare(String what, double want, double got) {
        if (got != want) {
            fault(what + " answered " + got + ", due is " + want);
        }
    }

    // ---- calls that are refused

    /** Behind these calls the call throws just this exception, and leaves everything as it was. */
    static void refused(String what, Class<?> want, Calls before, Answer call) {
        thrown(what, want, made(before), call);
        sameWhole(what + ", refused", before, x -> {
            before.on(x);
            told(x, call);
        });
    }

    /** The same for an object that is used further: its digest stays. */
    static void refusedHere(String what, Class<?> want, FineScrip x, Answer call) {
        long before = x.digest();
        thrown(what, want, x, call);
        due(what + ", refused, the digest behind it", before, x.digest());
    }

    private static void thrown(String what, Class<?> want, FineScrip x, Answer call) {
        Class<?> got = null;
        try {
            call.of(x);
        } catch (RuntimeException e) {
            got = e.getClass();
        }
        if (got != want) {
            fault(what + " threw " + got + ", due is " + want);
        }
    }

    // ---- calls that are undoable, and looks

    /** The call saves just one state, from before it; undo() brings all of that back. */
    static void undoable(String what, Calls before, Answer call) {
        FineScrip x = made(before);
        int saved = x.count(16);
        call.of(x);
        due(what + ", saved states", saved < 6 ? saved + 1 : 6, x.count(16));
        sameWhole(what + ", undone", y -> {
            before.on(y);
            // The twin's oldest state is dropped as well, if six are saved.
            y.set(0, y.setting(0));
            y.undo();
        }, y -> {
            before.on(y);
            call.of(y);
            y.undo();
        });
    }

    static void changesNothing(String what, Calls before, Answer look) {
        sameWhole(what + ", a look", before, x -> {
            before.on(x);
            look.of(x);
        });
    }

    // ---- all that an object holds

    /** The two runs leave the same state, the same buffer, slots and saved states behind. */
    static void sameWhole(String what, Calls one, Calls other) {
        for (int way = 0; way < WAYS; way++) {
            sameByWay(what, way, one, other);
        }
    }

    /** The two runs leave the same state and buffer behind; what lies in slots and saved states is free. */
    static void sameNow(String what, Calls one, Calls other) {
        sameByWay(what, 0, one, other);
    }

    private static void sameByWay(String what, int way, Calls one, Calls other) {
        List<String> want = portrait(way, one);
        List<String> got = portrait(way, other);
        if (!want.equals(got)) {
            fault(what + ": way " + way + " tells " + got + ", due is " + want);
        }
    }

    /**
     * The way 0 looks at the state as it is, 1 and 2 go to the slots first, 3 and above undo one call
     * or more. Each ends in three endings, as the digest does not tell what was weighed in on this day
     * (a day that goes by does) nor the prices of the lot (a bar does).
     */
    private static List<String> portrait(int way, Calls made) {
        List<String> answers = new ArrayList<>();
        for (int ending = 0; ending < 3; ending++) {
            FineScrip x = made(made);
            if (way == 1 || way == 2) {
                answers.add(told(x, y -> y.goBack(way - 1)));
            }
            for (int undone = 3; undone <= way; undone++) {
                answers.add(told(x, FineScrip::undo));
            }
            if (ending == 1) {
                answers.add(told(x, y -> y.pass(1)));
            } else if (ending == 2) {
                answers.add(told(x, FineScrip::melt));
            }
            answers.add(told(x, FineScrip::digest));
        }
        return answers;
    }

    private static String told(FineScrip x, Answer call) {
        try {
            return Long.toString(call.of(x));
        } catch (RuntimeException e) {
            return e.getClass().getName();
        }
    }

    // ---- runs that tests begin with

    static FineScrip made(Calls calls) {
        FineScrip x = new FineScrip();
        calls.on(x);
        return x;
    }

    /** So many diggers come; the digger n takes the claim n. */
    static void camp(FineScrip x, int diggers) {
        for (int i = 0; i < diggers; i++) {
            x.digger();
            x.stake(i, i);
        }
    }

    /** One cent is paid for each grain that the scale tells, and no fee taken. */
    static void evenCents(FineScrip x) {
        x.set(0, 1000);
        x.set(1, 10);
        x.set(2, 0);
    }

    /** A camp with so many diggers who have claims, paid by even cents. */
    static FineScrip evenCamp(int diggers) {
        FineScrip x = new FineScrip();
        camp(x, diggers);
        evenCents(x);
        return x;
    }

    /**
     * A camp with something of everything: diggers 0 and 1 with claims 0 and 1, the digger 2 with a
     * debt, a bar, a lot, dust of this day from the claim 1 alone, both slots, six saved states, a text.
     */
    static void busy(FineScrip x) {
        busyWithoutSlots(x);
        x.keep(0);
        x.adjust(7);
        x.weigh(0, 50);
        x.pass(2);
        x.keep(1);
        x.weigh(1, 21);
        x.buy(0, 5);
        write(x, BUSY_TEXT);
    }

    static void busyWithoutSlots(FineScrip x) {
        camp(x, 2);
        x.digger();
        x.vein(1, 611);
        x.set(3, 29);
        x.weigh(0, 777);
        x.melt();
        x.weigh(1, 333);
        x.buy(2, 400);
    }

    static void write(FineScrip x, String text) {
        x.clearBuffer();
        for (int i = 0; i < text.length(); i++) {
            x.append(text.charAt(i));
        }
    }

    static String repeated(String part, int times) {
        StringBuilder text = new StringBuilder();
        for (int i = 0; i < times; i++) {
            text.append(part);
        }
        return text.toString();
    }

    /** Does the text as a day; returns how many orders are done. */
    static int live(FineScrip x, String text) {
        write(x, text);
        return x.live();
    }
}
