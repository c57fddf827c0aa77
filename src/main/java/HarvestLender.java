/**
 * A farm lender by seasons: drawings, interest, cover of harvests, pledged grain,
 * rolled debts, and groups whose members answer for one another.
 */
public final class HarvestLender {
    public static final int NONE = -1;
    public static final int PURSE = 0, COVER = 1, PLEDGE = 2, SALE = 3, GROUP = 4;

    private static final int CROPS = 3;
    private static final int GROUPS = 3;
    private static final int FARMERS = 8;
    private static final int SOURCES = 5;
    private static final int HARVEST_STAGE = 4;
    private static final int LAST_SEASON = 20;

    private static final int FIRST_NEED = 1000;
    private static final int FIRST_PRICE = 100;
    private static final int FIRST_NORMAL = 50;
    private static final int USUAL_YIELD = 100;

    private static final int MOST_NEED = 100000;
    private static final int MOST_PRICE = 5000;
    private static final int MOST_NORMAL = 100;
    private static final int MOST_HECTARES = 50;
    private static final int MOST_COVER = 90;
    private static final int MOST_YIELD = 200;
    private static final int MOST_CENTS = 100000000;
    private static final int MOST_UNITS = 1000000;

    private static final int INTEREST_PERCENT = 2;
    private static final int PLEDGE_PERCENT = 60;
    private static final int ROLL_BELOW_YIELD = 60;
    private static final int INSTALMENTS = 3;
    private static final int MOST_CALLED = 20000;

    private final Crop[] crops = new Crop[CROPS];
    private final Farmer[] rows = new Farmer[FARMERS];
    private int count = 0;
    private int season = 0;
    private int stage = 0;

    public HarvestLender() {
        for (int i = 0; i < CROPS; i++) {
            crops[i] = new Crop();
        }
        for (int i = 0; i < FARMERS; i++) {
            rows[i] = new Farmer();
        }
    }

    // ---- crops and farmers

    public int setNeed(int crop, int stage, int cents) throws IndexOutOfBoundsException, IllegalArgumentException {
        Crop changed = cropAt(crop);
        if (stage < 0 || stage >= HARVEST_STAGE) {
            throw new IndexOutOfBoundsException("no such stage");
        }
        requireRange(cents, 0, MOST_NEED);
        int before = changed.needs[stage];
        changed.needs[stage] = cents;
        return before;
    }

    public int setCrop(int crop, int cents, int normal) throws IndexOutOfBoundsException, IllegalArgumentException {
        Crop changed = cropAt(crop);
        requireRange(cents, 1, MOST_PRICE);
        requireRange(normal, 0, MOST_NORMAL);
        int before = changed.price;
        changed.price = cents;
        changed.normal = normal;
        return before;
    }

    public int add(int group) throws IndexOutOfBoundsException, IllegalStateException {
        if (group < 0 || group >= GROUPS) {
            throw new IndexOutOfBoundsException("no such group");
        }
        requireState(count < FARMERS);
        int number = count;
        rows[number].group = group;
        count = number + 1;
        return number;
    }

    public int farmers() {
        return count;
    }

    // ---- a season

    public int plant(int farmer, int crop, int hectares)
            throws IndexOutOfBoundsException, IllegalArgumentException, IllegalStateException {
        Farmer planter = farmerAt(farmer);
        Crop planted = cropAt(crop);
        requireRange(hectares, 1, MOST_HECTARES);
        requireState(stage == 0 && !planter.hasPlanted());
        requireState(planter.grain == 0 || planter.grainCrop == crop);
        planter.plantedCrop = crop;
        planter.hectares = hectares;
        return planted.needUpTo(stage) * hectares;
    }

    public int cover(int farmer, int percent)
            throws IndexOutOfBoundsException, IllegalArgumentException, IllegalStateException {
        Farmer buyer = farmerAt(farmer);
        requireRange(percent, 1, MOST_COVER);
        requireState(stage == 0 && buyer.hasPlanted());
        int before = buyer.coverPercent;
        buyer.coverPercent = percent;
        return before;
    }

    public int draw(int farmer, int cents)
            throws IndexOutOfBoundsException, IllegalArgumentException, IllegalStateException {
        Farmer drawer = farmerAt(farmer);
        requireRange(cents, 1, MOST_CENTS);
        requireState(stage < HARVEST_STAGE);
        int left = limitOf(drawer) - drawer.drawn;
        requireState(cents <= left);
        drawer.drawn += cents;
        drawer.charge(cents);
        return left - cents;
    }

    public int setYield(int farmer, int percent)
            throws IndexOutOfBoundsException, IllegalArgumentException, IllegalStateException {
        Farmer told = farmerAt(farmer);
        requireRange(percent, 0, MOST_YIELD);
        requireState(stage < HARVEST_STAGE);
        int before = told.yieldPercent;
        told.yieldPercent = percent;
        return before;
    }

    public int next() throws IllegalStateException {
        requireState(stage < HARVEST_STAGE);
        stage++;
        for (int i = 0; i < count; i++) {
            rows[i].chargeInterest();
        }
        if (stage == HARVEST_STAGE) {
            harvestAll();
        }
        return stage;
    }

    public int pledge(int farmer, int units)
            throws IndexOutOfBoundsException, IllegalArgumentException, IllegalStateException {
        Farmer owner = farmerAt(farmer);
        requireRange(units, 1, MOST_UNITS);
        requireState(units <= owner.freeGrain());
        return (int) owner.pledgeUnits(units, cropAt(owner.grainCrop).price);
    }

    public int sell(int farmer, int units)
            throws IndexOutOfBoundsException, IllegalArgumentException, IllegalStateException {
        Farmer owner = farmerAt(farmer);
        requireRange(units, 1, MOST_UNITS);
        requireState(units <= owner.grain);
        return (int) owner.sellUnits(units, cropAt(owner.grainCrop).price);
    }

    public int repay(int farmer, int cents)
            throws IndexOutOfBoundsException, IllegalArgumentException, IllegalStateException {
        Farmer payer = farmerAt(farmer);
        requireRange(cents, 1, MOST_CENTS);
        requireState(cents <= payer.debt && cents <= payer.purse);
        payer.repayFromPurse(cents);
        return (int) payer.debt;
    }

    public int close() throws IllegalStateException {
        requireState(stage == HARVEST_STAGE && season < LAST_SEASON);
        for (int i = 0; i < count; i++) {
            rows[i].settleFromPurse();
        }
        // The groups pay only behind this: a purse answers for its owner's debt first.
        for (int i = 0; i < count; i++) {
            settleRest(rows[i]);
        }
        for (int i = 0; i < count; i++) {
            rows[i].forgetSeason();
        }
        season++;
        stage = 0;
        return season;
    }

    public int season() {
        return season;
    }

    public int stage() {
        return stage;
    }

    // ---- a farmer

    public int limit(int farmer) throws IndexOutOfBoundsException {
        return limitOf(farmerAt(farmer));
    }

    public int debt(int farmer) throws IndexOutOfBoundsException {
        return (int) farmerAt(farmer).debt;
    }

    public int owes(int farmer) throws IndexOutOfBoundsException {
        Farmer debtor = farmerAt(farmer);
        return (int) (debtor.debt + debtor.pledgeDebt + debtor.instalmentSum());
    }

    public int instalments(int farmer) throws IndexOutOfBoundsException {
        return farmerAt(farmer).instalmentsLeft;
    }

    public int purse(int farmer) throws IndexOutOfBoundsException {
        return (int) farmerAt(farmer).purse;
    }

    public int grain(int farmer, boolean pledged) throws IndexOutOfBoundsException {
        Farmer owner = farmerAt(farmer);
        return pledged ? owner.pledgedGrain : owner.grain;
    }

    public int called(int farmer) throws IndexOutOfBoundsException {
        return (int) farmerAt(farmer).called;
    }

    public int repaid(int farmer, int source) throws IndexOutOfBoundsException, IllegalArgumentException {
        Farmer debtor = farmerAt(farmer);
        requireRange(source, 0, SOURCES - 1);
        return (int) debtor.repaid[source];
    }

    public int charged(int farmer) throws IndexOutOfBoundsException {
        return (int) farmerAt(farmer).charged;
    }

    // ---- what the calls share

    private Farmer farmerAt(int number) {
        if (number < 0 || number >= count) {
            throw new IndexOutOfBoundsException("no such farmer");
        }
        return rows[number];
    }

    private Crop cropAt(int number) {
        if (number < 0 || number >= CROPS) {
            throw new IndexOutOfBoundsException("no such crop");
        }
        return crops[number];
    }

    private static void requireRange(int value, int least, int most) {
        if (value < least || value > most) {
            throw new IllegalArgumentException("out of range");
        }
    }

    private static void requireState(boolean allowed) {
        if (!allowed) {
            throw new IllegalStateException("not allowed now");
        }
    }

    private int limitOf(Farmer farmer) {
        if (!farmer.hasPlanted()) {
            return 0;
        }
        return cropAt(farmer.plantedCrop).needUpTo(stage) * farmer.hectares;
    }

    private void harvestAll() {
        for (int i = 0; i < count; i++) {
            if (rows[i].hasPlanted()) {
                rows[i].harvest(cropAt(rows[i].plantedCrop));
            }
        }
    }

    private void settleRest(Farmer debtor) {
        if (debtor.debt == 0) {
            return;
        }
        if (debtor.mayRoll()) {
            debtor.rollDebt();
        } else {
            collectFromGroup(debtor);
        }
    }

    private void collectFromGroup(Farmer debtor) {
        for (int i = 0; i < count; i++) {
            if (rows[i] != debtor && rows[i].group == debtor.group) {
                rows[i].payFor(debtor);
            }
        }
    }

    private static final class Crop {
        final int[] needs = new int[HARVEST_STAGE];
        int price = FIRST_PRICE;
        int normal = FIRST_NORMAL;

        Crop() {
            for (int i = 0; i < HARVEST_STAGE; i++) {
                needs[i] = FIRST_NEED;
            }
        }

        // The harvest stage has no need of its own: its limit is that of the stage before.
        int needUpTo(int stage) {
            int sum = 0;
            for (int i = 0; i < HARVEST_STAGE && i <= stage; i++) {
                sum += needs[i];
            }
            return sum;
        }
    }

    // Money is held in longs, so that products of money and percents don't wrap around.
    private static final class Farmer {
        int group = 0;
        long purse = 0;
        long debt = 0;
        long pledgeDebt = 0;
        long charged = 0;
        long called = 0;
        final long[] repaid = new long[SOURCES];
        final long[] instalments = new long[INSTALMENTS];
        int instalmentsLeft = 0;

        int grain = 0;
        int pledgedGrain = 0;
        // Says nothing while there is no grain.
        int grainCrop = 0;

        int plantedCrop = NONE;
        int hectares = 0;
        int coverPercent = 0;
        int yieldPercent = USUAL_YIELD;
        int drawn = 0;

        boolean hasPlanted() {
            return plantedCrop != NONE;
        }

        int freeGrain() {
            return grain - pledgedGrain;
        }

        void charge(long cents) {
            debt += cents;
            charged += cents;
        }

        void chargeInterest() {
            charge(debt * INTEREST_PERCENT / 100);
        }

        void lowerDebt(long cents, int source) {
            debt -= cents;
            if (source >= 0 && source < SOURCES) {
                repaid[source] += cents;
            }
        }

        void receive(long cents, int source) {
            long forDebt = Math.min(cents, debt);
            lowerDebt(forDebt, source);
            purse += cents - forDebt;
        }

        void repayFromPurse(long cents) {
            purse -= cents;
            lowerDebt(cents, PURSE);
        }

        void harvest(Crop crop) {
            int normalUnits = hectares * crop.normal;
            grain += normalUnits * yieldPercent / 100;
            grainCrop = plantedCrop;
            if (yieldPercent < coverPercent) {
                long missing = (long) normalUnits * crop.price * (coverPercent - yieldPercent);
                receive(missing / 100, COVER);
            }
        }

        long pledgeUnits(int units, int price) {
            long cents = (long) units * price * PLEDGE_PERCENT / 100;
            pledgedGrain += units;
            pledgeDebt += cents;
            receive(cents, PLEDGE);
            return cents;
        }

        long sellUnits(int units, int price) {
            int free = Math.min(units, freeGrain());
            int pledged = units - free;
            long forPledged = (long) pledged * price;
            long forPledgeDebt = Math.min(forPledged, pledgeDebt);
            grain -= units;
            pledgedGrain -= pledged;
            pledgeDebt -= forPledgeDebt;
            receive((long) free * price + forPledged - forPledgeDebt, SALE);
            if (pledgedGrain == 0) {
                moveRestOfPledgeDebt();
            }
            return (long) units * price;
        }

        void moveRestOfPledgeDebt() {
            charge(pledgeDebt);
            pledgeDebt = 0;
        }

        void settleFromPurse() {
            called = 0;
            debt += takeInstalment();
            repayFromPurse(Math.min(debt, purse));
        }

        // The row stays where it is and its first one moves up: with n left, it stands n from the end.
        long takeInstalment() {
            int first = INSTALMENTS - instalmentsLeft;
            if (first < 0 || first >= INSTALMENTS) {
                return 0;
            }
            instalmentsLeft--;
            return instalments[first];
        }

        long instalmentSum() {
            long sum = 0;
            for (int i = 0; i < INSTALMENTS; i++) {
                if (i >= INSTALMENTS - instalmentsLeft) {
                    sum += instalments[i];
                }
            }
            return sum;
        }

        boolean mayRoll() {
            return hasPlanted() && yieldPercent < ROLL_BELOW_YIELD && instalmentsLeft == 0;
        }

        void rollDebt() {
            long part = debt / INSTALMENTS;
            for (int i = 0; i < INSTALMENTS; i++) {
                instalments[i] = part;
            }
            instalments[INSTALMENTS - 1] = debt - part * (INSTALMENTS - 1);
            instalmentsLeft = INSTALMENTS;
            debt = 0;
        }

        void payFor(Farmer debtor) {
            long cents = Math.min(debtor.debt, Math.min(purse, MOST_CALLED - called));
            purse -= cents;
            called += cents;
            debtor.lowerDebt(cents, GROUP);
        }

        void forgetSeason() {
            plantedCrop = NONE;
            hectares = 0;
            coverPercent = 0;
            yieldPercent = USUAL_YIELD;
            drawn = 0;
        }
    }
}
