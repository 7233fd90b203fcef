/**
 * A gold camp with scales and a store. Weights are in grains, scrip in cents; every number is an
 * integer but for a share, and every division rounds down.
 */
public final class FineScrip {
    public static final int NONE = -1;

    private static final int MOST_DIGGERS = 8;
    private static final int CLAIMS = 10;
    private static final int MOST_BARS = 12;
    private static final int LEAST_FINENESS = 500;
    private static final int MOST_FINENESS = 1000;
    private static final int MOST_ERROR = 50;
    private static final int MOST_AMOUNT = 9999;
    private static final int MOST_LOT = 99999;
    private static final int MOST_DEBT = 5000;
    private static final int MOST_PASS = 30;
    private static final int LAST_DAY = 9999;
    private static final int MOST_SIGNS = 60;
    private static final int SLOTS = 2;
    private static final int MOST_SAVED = 6;

    private static final int FINENESS_TAKEN = 0;
    private static final int CENTS_FOR_TEN = 1;
    private static final int FEE = 2;
    private static final int DAYS_TO_LAPSE = 3;
    private static final int WEIGHINGS_TO_ERR = 4;
    private static final int SETTINGS = 5;
    private static final int[] LEAST_VALUES = {500, 1, 0, 1, 1};
    private static final int[] MOST_VALUES = {1000, 999, 50, 30, 99};

    private static final int DIGGER_PROPERTIES = 9;
    private static final int CLAIM_PROPERTIES = 5;
    private static final int BAR_PROPERTIES = 5;
    private static final int COUNTS = 17;

    private final Camp camp;
    private final DayText text;
    private final Camp[] slots;
    private final boolean[] slotTaken;
    private final Camp[] saved;
    private int savedCount;

    public FineScrip() {
        camp = new Camp();
        text = new DayText();
        slots = new Camp[SLOTS];
        slotTaken = new boolean[SLOTS];
        for (int slot = 0; slot < SLOTS; slot++) {
            slots[slot] = new Camp();
        }
        saved = new Camp[MOST_SAVED];
        for (int state = 0; state < MOST_SAVED; state++) {
            saved[state] = new Camp();
        }
    }

    // ---- diggers, claims

    public int digger() throws IllegalStateException {
        if (camp.diggerCount >= MOST_DIGGERS) {
            throw new IllegalStateException("there are 8 diggers");
        }
        saveState();
        camp.diggerCount++;
        return camp.diggerCount - 1;
    }

    public int stake(int digger, int claim)
            throws IndexOutOfBoundsException, IllegalArgumentException, IllegalStateException {
        if (!camp.hasDigger(digger)) {
            throw new IndexOutOfBoundsException("no such digger");
        }
        if (!isClaim(claim)) {
            throw new IllegalArgumentException("claim is out of range");
        }
        if (!camp.canTake(digger, claim)) {
            throw new IllegalStateException("the digger has a claim, or the claim has a digger");
        }
        saveState();
        camp.take(digger, claim);
        return camp.takenClaims();
    }

    public int leave(int digger) throws IndexOutOfBoundsException, IllegalStateException {
        if (!camp.hasDigger(digger)) {
            throw new IndexOutOfBoundsException("no such digger");
        }
        int left = camp.diggers[digger].claim;
        if (!isClaim(left)) {
            throw new IllegalStateException("the digger has no claim");
        }
        saveState();
        camp.release(left);
        return left;
    }

    public int vein(int claim, int fineness) throws IllegalArgumentException {
        if (!isClaim(claim)) {
            throw new IllegalArgumentException("claim is out of range");
        }
        if (!isBetween(fineness, LEAST_FINENESS, MOST_FINENESS)) {
            throw new IllegalArgumentException("fineness is out of range");
        }
        saveState();
        int previous = camp.claims[claim].fineness;
        camp.claims[claim].fineness = fineness;
        return previous;
    }

    // ---- dust, goods

    public int weigh(int digger, int grains)
            throws IndexOutOfBoundsException, IllegalArgumentException, IllegalStateException {
        if (!camp.hasDigger(digger)) {
            throw new IndexOutOfBoundsException("no such digger");
        }
        if (!isAmount(grains)) {
            throw new IllegalArgumentException("grains is out of range");
        }
        if (!camp.canWeighIn(digger, grains)) {
            throw new IllegalStateException("no claim, or the lot would be too heavy");
        }
        saveState();
        return camp.weighIn(digger, grains);
    }

    public int buy(int digger, int cents)
            throws IndexOutOfBoundsException, IllegalArgumentException, IllegalStateException {
        if (!camp.hasDigger(digger)) {
            throw new IndexOutOfBoundsException("no such digger");
        }
        if (!isAmount(cents)) {
            throw new IllegalArgumentException("cents is out of range");
        }
        if (!camp.canSell(digger, cents)) {
            throw new IllegalStateException("the debt would be above 5000");
        }
        saveState();
        camp.sell(digger, cents);
        return camp.diggers[digger].debt;
    }

    public int melt() throws IllegalStateException {
        if (!camp.canMeltLot()) {
            throw new IllegalStateException("the lot is empty, or there are 12 bars");
        }
        saveState();
        camp.meltLot();
        return camp.barCount - 1;
    }

    public int adjust(int error) throws IllegalArgumentException {
        if (!isBetween(error, -MOST_ERROR, MOST_ERROR)) {
            throw new IllegalArgumentException("error is out of range");
        }
        saveState();
        int previous = camp.error;
        camp.error = error;
        camp.weighings = 0;
        return previous < 0 ? -previous : previous;
    }

    public int pass(int days) throws IllegalArgumentException, IllegalStateException {
        if (!isBetween(days, 1, MOST_PASS)) {
            throw new IllegalArgumentException("days is out of range");
        }
        if (!camp.canWait(days)) {
            throw new IllegalStateException("the day would be above 9999");
        }
        saveState();
        int lapsed = 0;
        for (int i = 0; i < days; i++) {
            lapsed += camp.endDay();
        }
        return lapsed;
    }

    public int set(int setting, int value) throws IndexOutOfBoundsException, IllegalArgumentException {
        if (!isSetting(setting)) {
            throw new IndexOutOfBoundsException("no such setting");
        }
        if (!isBetween(value, LEAST_VALUES[setting], MOST_VALUES[setting])) {
            throw new IllegalArgumentException("value is out of range");
        }
        saveState();
        int previous = camp.settings[setting];
        camp.settings[setting] = value;
        return previous;
    }

    // ---- texts, snapshots

    public int append(int code) throws IllegalArgumentException, IllegalStateException {
        if (!isBetween(code, 33, 126)) {
            throw new IllegalArgumentException("code is not 33 to 126");
        }
        if (text.length >= MOST_SIGNS) {
            throw new IllegalStateException("the buffer has 60 characters");
        }
        text.put((char) code);
        return text.length;
    }

    public int clearBuffer() {
        int previous = text.length;
        text.length = 0;
        return previous;
    }

    public int firstError() {
        return text.errorIndex();
    }

    public int live() throws IllegalArgumentException {
        if (!text.isDay()) {
            throw new IllegalArgumentException("the buffer does not tell a day");
        }
        saveState();
        text.readFromStart();
        int done = 0;
        // No text of 60 characters has more than 60 orders.
        while (done < MOST_SIGNS && text.readOrder() && follow(text.kind, text.digger, text.amount)) {
            done++;
        }
        text.length = 0;
        return done;
    }

    public int keep(int slot) throws IllegalArgumentException {
        if (!isSlot(slot)) {
            throw new IllegalArgumentException("slot is out of range");
        }
        slots[slot].copyFrom(camp);
        slotTaken[slot] = true;
        return camp.day;
    }

    public int goBack(int slot) throws IllegalArgumentException, IllegalStateException {
        if (!isSlot(slot)) {
            throw new IllegalArgumentException("slot is out of range");
        }
        if (!slotTaken[slot]) {
            throw new IllegalStateException("there is no snapshot in the slot");
        }
        saveState();
        camp.copyFrom(slots[slot]);
        return camp.day;
    }

    public int undo() throws IllegalStateException {
        if (savedCount < 1 || savedCount > MOST_SAVED) {
            throw new IllegalStateException("there is no saved state");
        }
        savedCount--;
        camp.copyFrom(saved[savedCount]);
        return savedCount;
    }

    // ---- looks; nothing is changed

    public int diggerOf(int digger, int what) throws IndexOutOfBoundsException, IllegalArgumentException {
        if (!camp.hasDigger(digger)) {
            throw new IndexOutOfBoundsException("no such digger");
        }
        if (!isBetween(what, 0, DIGGER_PROPERTIES - 1)) {
            throw new IllegalArgumentException("what is not 0 to 8");
        }
        return camp.diggerProperty(digger, what);
    }

    public int claim(int claim, int what) throws IllegalArgumentException {
        if (!isClaim(claim)) {
            throw new IllegalArgumentException("claim is out of range");
        }
        if (!isBetween(what, 0, CLAIM_PROPERTIES - 1)) {
            throw new IllegalArgumentException("what is out of range");
        }
        return camp.claims[claim].property(what);
    }

    public int bar(int bar, int what) throws IndexOutOfBoundsException, IllegalArgumentException {
        if (!camp.hasBar(bar)) {
            throw new IndexOutOfBoundsException("no such bar");
        }
        if (!isBetween(what, 0, BAR_PROPERTIES - 1)) {
            throw new IllegalArgumentException("what is not 0 to 4");
        }
        return camp.barProperty(bar, what);
    }

    public int count(int what) throws IllegalArgumentException {
        if (!isBetween(what, 0, COUNTS - 1)) {
            throw new IllegalArgumentException("what is not 0 to 16");
        }
        return what == 16 ? savedCount : camp.number(what);
    }

    public int setting(int setting) throws IndexOutOfBoundsException {
        if (!isSetting(setting)) {
            throw new IndexOutOfBoundsException("no such setting");
        }
        return camp.settings[setting];
    }

    // ---- what would be; nothing is changed

    public int ifWeighed(int grains, int what) throws IllegalArgumentException {
        if (!isAmount(grains)) {
            throw new IllegalArgumentException("grains is out of range");
        }
        if (!isBetween(what, 0, 2)) {
            throw new IllegalArgumentException("what is out of range");
        }
        if (what == 0) {
            return camp.payFor(grains);
        }
        return what == 1 ? camp.feeFor(grains) : camp.toldWeight(grains);
    }

    public int grainsFor(int cents) throws IllegalArgumentException {
        if (!isAmount(cents)) {
            throw new IllegalArgumentException("cents is out of range");
        }
        return camp.fewestGrains(cents);
    }

    public int worst() {
        return camp.worstDigger();
    }

    public int safeFineness() {
        return camp.greatestSafeFineness();
    }

    public double fineShare() {
        return camp.shareOfFine();
    }

    public long digest() {
        long hash = 3119;
        for (int what = 0; what < COUNTS; what++) {
            hash = 31 * hash + count(what);
        }
        hash = camp.hashSettings(hash);
        hash = camp.hashRows(hash);
        for (int what = 0; what <= 2; what++) {
            hash = 31 * hash + ifWeighed(777, what);
        }
        hash = 31 * hash + grainsFor(100);
        hash = 31 * hash + worst();
        hash = 31 * hash + safeFineness();
        hash = 31 * hash + bitsOfShare(fineShare());
        for (int slot = 0; slot < SLOTS; slot++) {
            hash = 31 * hash + (slotTaken[slot] ? 1 : 0);
        }
        return text.hashOnto(hash);
    }

    // ---- ranges

    private static boolean isBetween(int value, int least, int most) {
        return value >= least && value <= most;
    }

    private static boolean isClaim(int claim) {
        return isBetween(claim, 0, CLAIMS - 1);
    }

    private static boolean isAmount(int amount) {
        return isBetween(amount, 1, MOST_AMOUNT);
    }

    private static boolean isSetting(int setting) {
        return isBetween(setting, 0, SETTINGS - 1);
    }

    private static boolean isSlot(int slot) {
        return isBetween(slot, 0, SLOTS - 1);
    }

    // ---- parts of calls

    /** Saves the state as it is now; with six saved the row of the oldest one is used again. */
    private void saveState() {
        if (savedCount >= MOST_SAVED) {
            Camp oldest = saved[0];
            for (int i = 1; i < MOST_SAVED; i++) {
                saved[i - 1] = saved[i];
            }
            saved[MOST_SAVED - 1] = oldest;
            savedCount = MOST_SAVED - 1;
        }
        saved[savedCount].copyFrom(camp);
        savedCount++;
    }

    /** Does an order if its method would throw nothing; tells whether it is done. */
    private boolean follow(char kind, int digger, int amount) {
        switch (kind) {
            case 'w':
                return followWeigh(digger, amount);
            case 'c':
                return followStake(digger, amount);
            case 'g':
                return followBuy(digger, amount);
            case 'm':
                return followMelt();
            default:
                return followPass();
        }
    }

    private boolean followWeigh(int digger, int grains) {
        if (!camp.hasDigger(digger) || !isAmount(grains) || !camp.canWeighIn(digger, grains)) {
            return false;
        }
        camp.weighIn(digger, grains);
        return true;
    }

    private boolean followStake(int digger, int claim) {
        if (!camp.hasDigger(digger) || !isClaim(claim) || !camp.canTake(digger, claim)) {
            return false;
        }
        camp.take(digger, claim);
        return true;
    }

    private boolean followBuy(int digger, int cents) {
        if (!camp.hasDigger(digger) || !isAmount(cents) || !camp.canSell(digger, cents)) {
            return false;
        }
        camp.sell(digger, cents);
        return true;
    }

    private boolean followMelt() {
        if (!camp.canMeltLot()) {
            return false;
        }
        camp.meltLot();
        return true;
    }

    private boolean followPass() {
        if (!camp.canWait(1)) {
            return false;
        }
        camp.endDay();
        return true;
    }

    /**
     * The bits of a double from 0 to 1, as the format of doubles puts them: the library's own function
     * is not among those that the program may call.
     */
    private static long bitsOfShare(double share) {
        if (share <= 0.0) {
            return 0L;
        }
        double scaled = share;
        long exponent = 1023;
        while (scaled < 1.0 && exponent > 1) {
            scaled = scaled * 2.0;
            exponent--;
        }
        long one = 1L << 52;
        long fraction = (long) (scaled * (double) one) - one;
        return (exponent << 52) + fraction;
    }

    /** What a digger has, and what was counted for this one so far. */
    private static final class Digger {
        int scrip;
        int debt;
        int claim = NONE;
        int grains;
        int fine;
        int paid;
        int fees;
        int goods;

        void copyFrom(Digger other) {
            scrip = other.scrip;
            debt = other.debt;
            claim = other.claim;
            grains = other.grains;
            fine = other.fine;
            paid = other.paid;
            fees = other.fees;
            goods = other.goods;
        }

        void receive(int pay) {
            int half = pay / 2;
            int toDebt = half < debt ? half : debt;
            debt -= toDebt;
            scrip += pay - toDebt;
            paid += pay;
        }

        int debtAfter(int cents) {
            return cents > scrip ? debt + (cents - scrip) : debt;
        }

        void spend(int cents) {
            debt = debtAfter(cents);
            scrip = cents > scrip ? 0 : scrip - cents;
            goods += cents;
        }

        /** The properties 0 to 7; the 8th needs a setting. */
        int property(int what) {
            switch (what) {
                case 0:
                    return scrip;
                case 1:
                    return debt;
                case 2:
                    return claim;
                case 3:
                    return grains;
                case 4:
                    return fine;
                case 5:
                    return paid;
                case 6:
                    return fees;
                default:
                    return goods;
            }
        }
    }

    /** A claim, and the digger who has it, if any. */
    private static final class Claim {
        int fineness = 800;
        int digger = NONE;
        int idleDays;
        // Only since the claim was taken last.
        boolean weighedToday;
        int grains;
        int lapses;

        void copyFrom(Claim other) {
            fineness = other.fineness;
            digger = other.digger;
            idleDays = other.idleDays;
            weighedToday = other.weighedToday;
            grains = other.grains;
            lapses = other.lapses;
        }

        void giveTo(int taker) {
            digger = taker;
            idleDays = 0;
            weighedToday = false;
        }

        void endDay() {
            idleDays = weighedToday ? 0 : idleDays + 1;
            weighedToday = false;
        }

        int property(int what) {
            switch (what) {
                case 0:
                    return fineness;
                case 1:
                    return digger;
                case 2:
                    return idleDays;
                case 3:
                    return grains;
                default:
                    return lapses;
            }
        }
    }

    /** Gold together: the lot, or a bar that was a lot. */
    private static final class Gold {
        int weight;
        int fine;
        int prices;

        void copyFrom(Gold other) {
            weight = other.weight;
            fine = other.fine;
            prices = other.prices;
        }

        void add(int moreWeight, int moreFine, int price) {
            weight += moreWeight;
            fine += moreFine;
            prices += price;
        }

        void empty() {
            weight = 0;
            fine = 0;
            prices = 0;
        }

        int fineness() {
            return weight > 0 ? 1000 * fine / weight : 0;
        }
    }

    /** All that a snapshot holds. */
    private static final class Camp {
        final Digger[] diggers = new Digger[MOST_DIGGERS];
        final Claim[] claims = new Claim[CLAIMS];
        final Gold[] bars = new Gold[MOST_BARS];
        final Gold lot = new Gold();
        final int[] settings = {750, 40, 5, 7, 10};
        int diggerCount;
        int barCount;
        int day;
        int error;
        int weighings;

        Camp() {
            for (int i = 0; i < MOST_DIGGERS; i++) {
                diggers[i] = new Digger();
            }
            for (int i = 0; i < CLAIMS; i++) {
                claims[i] = new Claim();
            }
            for (int i = 0; i < MOST_BARS; i++) {
                bars[i] = new Gold();
            }
        }

        void copyFrom(Camp other) {
            for (int i = 0; i < MOST_DIGGERS; i++) {
                diggers[i].copyFrom(other.diggers[i]);
            }
            for (int i = 0; i < CLAIMS; i++) {
                claims[i].copyFrom(other.claims[i]);
            }
            for (int i = 0; i < MOST_BARS; i++) {
                bars[i].copyFrom(other.bars[i]);
            }
            lot.copyFrom(other.lot);
            System.arraycopy(other.settings, 0, settings, 0, SETTINGS);
            diggerCount = other.diggerCount;
            barCount = other.barCount;
            day = other.day;
            error = other.error;
            weighings = other.weighings;
        }

        boolean hasDigger(int digger) {
            return digger >= 0 && digger < diggerCount && digger < MOST_DIGGERS;
        }

        boolean hasBar(int bar) {
            return bar >= 0 && bar < barCount && bar < MOST_BARS;
        }

        boolean canTake(int digger, int claim) {
            return diggers[digger].claim == NONE && claims[claim].digger == NONE;
        }

        void take(int digger, int claim) {
            diggers[digger].claim = claim;
            claims[claim].giveTo(digger);
        }

        void release(int claim) {
            int digger = claims[claim].digger;
            if (hasDigger(digger)) {
                diggers[digger].claim = NONE;
            }
            claims[claim].giveTo(NONE);
        }

        int takenClaims() {
            int taken = 0;
            for (int i = 0; i < CLAIMS; i++) {
                if (claims[i].digger != NONE) {
                    taken++;
                }
            }
            return taken;
        }

        int toldWeight(int grains) {
            return grains * (1000 + error) / 1000;
        }

        int worthOf(int fine) {
            return fine * settings[CENTS_FOR_TEN] / 10;
        }

        int priceFor(int grains, int fineness) {
            return worthOf(toldWeight(grains) * fineness / 1000);
        }

        int priceNow(int grains) {
            return priceFor(grains, settings[FINENESS_TAKEN]);
        }

        int feeFor(int grains) {
            return settings[FEE] * priceNow(grains) / 100;
        }

        int payFor(int grains) {
            return priceNow(grains) - feeFor(grains);
        }

        boolean canWeighIn(int digger, int grains) {
            return isClaim(diggers[digger].claim) && lot.weight + grains <= MOST_LOT;
        }

        int weighIn(int digger, int grains) {
            Digger bringer = diggers[digger];
            if (!isClaim(bringer.claim)) {
                return 0;
            }
            Claim claim = claims[bringer.claim];
            int pay = payFor(grains);
            int fine = grains * claim.fineness / 1000;
            bringer.fees += feeFor(grains);
            bringer.receive(pay);
            bringer.grains += grains;
            bringer.fine += fine;
            claim.grains += grains;
            claim.weighedToday = true;
            lot.add(grains, fine, priceNow(grains));
            countWeighing();
            return pay;
        }

        void countWeighing() {
            weighings++;
            int every = settings[WEIGHINGS_TO_ERR];
            if (every > 0 && weighings % every == 0 && error < MOST_ERROR) {
                error++;
            }
        }

        boolean canSell(int digger, int cents) {
            return diggers[digger].debtAfter(cents) <= MOST_DEBT;
        }

        void sell(int digger, int cents) {
            diggers[digger].spend(cents);
        }

        boolean canMeltLot() {
            return lot.weight > 0 && barCount >= 0 && barCount < MOST_BARS;
        }

        void meltLot() {
            bars[barCount].copyFrom(lot);
            barCount++;
            lot.empty();
        }

        boolean canWait(int days) {
            return day + days <= LAST_DAY;
        }

        /** Lets a day go by; returns how many claims lapse. */
        int endDay() {
            int lapsed = 0;
            for (int i = 0; i < CLAIMS; i++) {
                Claim claim = claims[i];
                if (claim.digger == NONE) {
                    continue;
                }
                claim.endDay();
                if (claim.idleDays >= settings[DAYS_TO_LAPSE]) {
                    release(i);
                    claim.lapses++;
                    lapsed++;
                }
            }
            day++;
            return lapsed;
        }

        /** What was paid and the fees, less the worth of what is fine: above 0 the store lost. */
        int lossBy(Digger digger) {
            return digger.paid + digger.fees - worthOf(digger.fine);
        }

        int diggerProperty(int digger, int what) {
            if (what == DIGGER_PROPERTIES - 1) {
                return lossBy(diggers[digger]) > 0 ? 1 : 0;
            }
            return diggers[digger].property(what);
        }

        int barProperty(int bar, int what) {
            Gold gold = bars[bar];
            switch (what) {
                case 0:
                    return gold.weight;
                case 1:
                    return gold.fine;
                case 2:
                    return gold.fineness();
                case 3:
                    return gold.prices;
                default:
                    return worthOf(gold.fine);
            }
        }

        /** A property of all diggers together. */
        int total(int what) {
            int sum = 0;
            for (int i = 0; i < diggerCount; i++) {
                sum += diggers[i].property(what);
            }
            return sum;
        }

        int fineInLotAndBars() {
            int fine = lot.fine;
            for (int i = 0; i < barCount; i++) {
                fine += bars[i].fine;
            }
            return fine;
        }

        /** The counts 0 to 15; saved states are not the camp's. */
        int number(int what) {
            switch (what) {
                case 0:
                    return day;
                case 1:
                    return diggerCount;
                case 2:
                    return takenClaims();
                case 3:
                    return lot.weight;
                case 4:
                    return lot.fine;
                case 5:
                    return barCount;
                case 6:
                    return error + 50;
                case 7:
                    return weighings;
                case 8:
                    return total(0);
                case 9:
                    return total(1);
                case 10:
                    return total(5);
                case 11:
                    return total(6);
                case 12:
                    return total(7);
                case 13:
                    return fineInLotAndBars();
                case 14:
                    return total(4);
                default:
                    return total(0) + total(7) - total(1);
            }
        }

        int fewestGrains(int cents) {
            // More grains are never paid less, so the most grains that are paid too little are found
            // by halving.
            int tooFew = 0;
            for (int step = 8192; step > 0; step /= 2) {
                if (tooFew + step <= MOST_AMOUNT && payFor(tooFew + step) < cents) {
                    tooFew += step;
                }
            }
            return tooFew < MOST_AMOUNT ? tooFew + 1 : NONE;
        }

        int worstDigger() {
            int found = NONE;
            int greatest = 0;
            for (int i = 0; i < diggerCount; i++) {
                int loss = lossBy(diggers[i]);
                if (loss > greatest) {
                    greatest = loss;
                    found = i;
                }
            }
            return found;
        }

        /** The least fineness of the claims with diggers; NONE without these. */
        int leastFineness() {
            int least = NONE;
            for (int i = 0; i < CLAIMS; i++) {
                Claim claim = claims[i];
                if (claim.digger != NONE && (least == NONE || claim.fineness < least)) {
                    least = claim.fineness;
                }
            }
            return least;
        }

        int greatestSafeFineness() {
            int least = leastFineness();
            if (least == NONE) {
                return NONE;
            }
            // Of 1000 grains just so many are fine as the fineness tells.
            int worth = worthOf(least);
            // A greater fineness never makes the price less, so the greatest one is found by halving.
            int safe = LEAST_FINENESS - 1;
            for (int step = 256; step > 0; step /= 2) {
                if (safe + step <= MOST_FINENESS && priceFor(1000, safe + step) <= worth) {
                    safe += step;
                }
            }
            return safe >= LEAST_FINENESS ? safe : NONE;
        }

        double shareOfFine() {
            int grains = total(3);
            return grains > 0 ? (double) total(4) / (double) grains : 0.0;
        }

        long hashSettings(long before) {
            long hash = before;
            for (int i = 0; i < SETTINGS; i++) {
                hash = 31 * hash + settings[i];
            }
            return hash;
        }

        /** Hashes the properties of the diggers, the claims and the bars. */
        long hashRows(long before) {
            long hash = before;
            for (int i = 0; i < diggerCount; i++) {
                for (int what = 0; what < DIGGER_PROPERTIES; what++) {
                    hash = 31 * hash + diggerProperty(i, what);
                }
            }
            for (int i = 0; i < CLAIMS; i++) {
                for (int what = 0; what < CLAIM_PROPERTIES; what++) {
                    hash = 31 * hash + claims[i].property(what);
                }
            }
            for (int i = 0; i < barCount; i++) {
                for (int what = 0; what < BAR_PROPERTIES; what++) {
                    hash = 31 * hash + barProperty(i, what);
                }
            }
            return hash;
        }
    }

    /** The buffer, and the reading of a day as a text. */
    private static final class DayText {
        // What may stand next in a text; from ONE_DIGIT on it may end, too.
        private static final int ERROR = -1;
        private static final int ORDER = 0;
        private static final int KIND = 1;
        private static final int CLAIM_DIGIT = 2;
        private static final int FIRST_DIGIT = 3;
        private static final int ONE_DIGIT = 4;
        private static final int FOUR_DIGITS = 7;
        private static final int ORDER_END = FOUR_DIGITS;

        final char[] signs = new char[MOST_SIGNS];
        int length;
        int place;
        char kind;
        int digger;
        int amount;

        void put(char sign) {
            if (length >= 0 && length < MOST_SIGNS) {
                signs[length] = sign;
                length++;
            }
        }

        char signAt(int index) {
            return index >= 0 && index < length && index < MOST_SIGNS ? signs[index] : ' ';
        }

        static boolean isDigit(char sign) {
            return sign >= '0' && sign <= '9';
        }

        /** What may stand behind the sign; ERROR if the sign itself may not stand here. */
        static int behind(int state, char sign) {
            switch (state) {
                case ORDER:
                    if (sign == 'm' || sign == 'n') {
                        return ORDER_END;
                    }
                    return sign >= '0' && sign <= '7' ? KIND : ERROR;
                case KIND:
                    if (sign == 'w' || sign == 'g') {
                        return FIRST_DIGIT;
                    }
                    return sign == 'c' ? CLAIM_DIGIT : ERROR;
                case CLAIM_DIGIT:
                    return isDigit(sign) ? ORDER_END : ERROR;
                case FIRST_DIGIT:
                    return isDigit(sign) && sign != '0' ? ONE_DIGIT : ERROR;
                default:
                    if (sign == ';') {
                        return ORDER;
                    }
                    return isDigit(sign) && state < FOUR_DIGITS ? state + 1 : ERROR;
            }
        }

        int errorIndex() {
            int state = ORDER;
            for (int i = 0; i < length; i++) {
                state = behind(state, signAt(i));
                if (state == ERROR) {
                    return i;
                }
            }
            return length;
        }

        boolean isDay() {
            int state = ORDER;
            for (int i = 0; i < length && state != ERROR; i++) {
                state = behind(state, signAt(i));
            }
            return state >= ONE_DIGIT;
        }

        void readFromStart() {
            place = 0;
        }

        /** Reads the next order of a text that tells a day; false behind the last one. */
        boolean readOrder() {
            if (place >= length) {
                return false;
            }
            digger = NONE;
            amount = 0;
            if (isDigit(signAt(place))) {
                digger = signAt(place) - '0';
                place++;
            }
            kind = signAt(place);
            place++;
            while (place < length && isDigit(signAt(place))) {
                amount = 10 * amount + (signAt(place) - '0');
                place++;
            }
            place++;
            return true;
        }

        /** Hashes the length and the characters. */
        long hashOnto(long before) {
            long hash = 31 * before + length;
            for (int i = 0; i < length; i++) {
                hash = 31 * hash + signAt(i);
            }
            return hash;
        }
    }
}
