/**
 * A with-profits office: policies in generations by year and term with asset shares that grow by
 * earned rates, yearly bonuses that stay once they are given, payouts that are smoothed from year
 * to year and never below what is guaranteed, surrenders, and an estate that bears the differences
 * until all is closed.
 */
public final class ProfitsOffice {
    public static final int NONE = -1;
    public static final int IN_FORCE = 0, MATURED = 1, SURRENDERED = 2;

    private static final int MOST_POLICIES = 30;
    private static final int LAST_YEAR = 40;
    private static final int SHORTEST_TERM = 2;
    private static final int LONGEST_TERM = 20;
    private static final int MOST_PREMIUM = 1000;
    private static final int MOST_SUM = 100000;
    private static final int MOST_BONUS_RATE = 200;
    private static final int MOST_CHARGE = 100;
    private static final int LEAST_SCALE = 500;
    private static final int MOST_SCALE = 1500;
    private static final int MOST_ENDOWMENT = 1000000;
    private static final int MOST_EARNED_RATE = 200;
    private static final int WHOLE = 1000;
    private static final int WORTH_AT_FIRST = 600;
    private static final int WORTH_GAINED_BY_TERM = 400;

    private final Policy[] policies;
    private final Generation[] generations;
    /** By term. */
    private final long[] lastRatios;
    /** The last ratios as they were when the year began; a row that every year uses again. */
    private final long[] ratiosBefore;
    private int policyCount;
    private int generationCount;
    private int year;
    private int bonusRate;
    private int charge;
    private int scale;
    private int step;
    private int floor;
    private long estate;
    /** Kept apart from the shares and the estate, by what came in and went out alone. */
    private long assets;

    public ProfitsOffice() {
        policies = new Policy[MOST_POLICIES];
        generations = new Generation[MOST_POLICIES];
        lastRatios = new long[LONGEST_TERM + 1];
        ratiosBefore = new long[LONGEST_TERM + 1];
        for (int term = 0; term < lastRatios.length; term++) {
            lastRatios[term] = NONE;
        }
        bonusRate = 20;
        charge = 5;
        scale = 1000;
        step = 100;
        floor = 500;
    }

    // ---- policies

    public int begin(int term, int premium, int sum)
            throws IllegalArgumentException, IllegalStateException {
        if (!isTerm(term) || !isWithin(premium, 1, MOST_PREMIUM) || !isWithin(sum, 0, MOST_SUM)) {
            throw new IllegalArgumentException("term, premium or sum is out of range");
        }
        int number = policyCount;
        if (number < 0 || number >= policies.length) {
            throw new IllegalStateException("there are 30 policies");
        }
        policies[number] = new Policy(joinGeneration(term, premium), premium, sum);
        policyCount = number + 1;
        return number;
    }

    public int surrender(int policy) throws IndexOutOfBoundsException, IllegalStateException {
        Policy surrendered = knownPolicy(policy);
        checkSurrenderable(surrendered);
        long worth = surrenderWorth(surrendered);
        close(surrendered, SURRENDERED, worth);
        return (int) worth;
    }

    // ---- rules, for what comes from now on

    public int setRates(int bonus, int charge) throws IllegalArgumentException {
        if (!isWithin(bonus, 0, MOST_BONUS_RATE) || !isWithin(charge, 0, MOST_CHARGE)) {
            throw new IllegalArgumentException("bonus or charge is out of range");
        }
        int before = bonusRate;
        bonusRate = bonus;
        this.charge = charge;
        return before;
    }

    public int setScale(int scale, int step, int floor) throws IllegalArgumentException {
        if (!isWithin(scale, LEAST_SCALE, MOST_SCALE) || !isWithin(step, 0, WHOLE)
                || !isWithin(floor, 0, WHOLE)) {
            throw new IllegalArgumentException("scale, step or floor is out of range");
        }
        int before = this.scale;
        this.scale = scale;
        this.step = step;
        this.floor = floor;
        return before;
    }

    public long endow(int amount) throws IllegalArgumentException {
        if (!isWithin(amount, -MOST_ENDOWMENT, MOST_ENDOWMENT)) {
            throw new IllegalArgumentException("amount is out of range");
        }
        estate += amount;
        assets += amount;
        return estate;
    }

    public int run(int rate) throws IllegalArgumentException, IllegalStateException {
        if (!isWithin(rate, -MOST_EARNED_RATE, MOST_EARNED_RATE)) {
            throw new IllegalArgumentException("rate is out of range");
        }
        if (year >= LAST_YEAR) {
            throw new IllegalStateException("it is the year 40");
        }
        // The charges of the year earn nothing in it.
        long earnedByEstate = thousandths(estate, rate);
        growGenerations(rate);
        estate += earnedByEstate;
        assets += earnedByEstate;
        growPoliciesAlone(rate);
        giveBonuses();
        int matured = maturePolicies();
        year++;
        return matured;
    }

    // ---- as it is

    public int year() {
        return year;
    }

    public int policies() {
        return policyCount;
    }

    public int stateOf(int policy) throws IndexOutOfBoundsException {
        return knownPolicy(policy).state;
    }

    public int bonuses(int policy) throws IndexOutOfBoundsException {
        return (int) knownPolicy(policy).bonuses;
    }

    public int shareOf(int policy) throws IndexOutOfBoundsException {
        return (int) knownPolicy(policy).assetShare();
    }

    public int shareAlone(int policy) throws IndexOutOfBoundsException {
        Policy asked = knownPolicy(policy);
        return asked.isInForce() ? (int) asked.alone.amount : 0;
    }

    public int generation(int year, int term) throws IllegalArgumentException {
        if (!isWithin(year, 0, LAST_YEAR) || !isTerm(term)) {
            throw new IllegalArgumentException("year or term is out of range");
        }
        Generation asked = findGeneration(year, term);
        return asked == null ? 0 : (int) asked.fund.amount;
    }

    public int paid(int policy) throws IndexOutOfBoundsException {
        return (int) knownPolicy(policy).paid;
    }

    public int worth(int policy) throws IndexOutOfBoundsException, IllegalStateException {
        Policy asked = knownPolicy(policy);
        checkSurrenderable(asked);
        return (int) surrenderWorth(asked);
    }

    public int lastRatio(int term) throws IllegalArgumentException {
        if (!isTerm(term)) {
            throw new IllegalArgumentException("term is out of range");
        }
        return (int) ratioIn(lastRatios, term);
    }

    public long estate() {
        return estate;
    }

    public long sharesAndEstate() {
        long total = estate;
        for (int i = 0; i < generations.length; i++) {
            Generation counted = generations[i];
            if (counted != null) {
                total += counted.fund.amount;
            }
        }
        return total;
    }

    public long assets() {
        return assets;
    }

    public int shortfall() {
        long total = 0;
        for (int i = 0; i < policies.length; i++) {
            Policy counted = policies[i];
            if (counted != null && counted.isInForce()) {
                total += Math.max(0, counted.guaranteed() - counted.assetShare());
            }
        }
        return (int) total;
    }

    // ---- finding and testing

    private static boolean isWithin(int value, int least, int most) {
        return value >= least && value <= most;
    }

    private static boolean isTerm(int term) {
        return isWithin(term, SHORTEST_TERM, LONGEST_TERM);
    }

    private Policy knownPolicy(int number) throws IndexOutOfBoundsException {
        if (number < 0 || number >= policies.length) {
            throw new IndexOutOfBoundsException("there is no such policy");
        }
        Policy known = policies[number];
        if (known == null) {
            throw new IndexOutOfBoundsException("there is no such policy");
        }
        return known;
    }

    private void checkSurrenderable(Policy policy) throws IllegalStateException {
        if (!policy.isInForce() || yearsRun(policy) < 1) {
            throw new IllegalStateException("the policy has not been in force for a year, or is not any more");
        }
    }

    private int yearsRun(Policy policy) {
        return year - policy.generation.begun;
    }

    private Generation findGeneration(int begun, int term) {
        for (int i = 0; i < generations.length; i++) {
            Generation found = generations[i];
            if (found != null && found.begun == begun && found.term == term) {
                return found;
            }
        }
        return null;
    }

    private Generation joinGeneration(int term, int premium) {
        Generation joined = findGeneration(year, term);
        if (joined == null) {
            joined = new Generation(year, term);
            // There is room: each policy begins one generation at most.
            if (generationCount >= 0 && generationCount < generations.length) {
                generations[generationCount] = joined;
                generationCount++;
            }
        }
        joined.premiums += premium;
        return joined;
    }

    private static long ratioIn(long[] ratios, int term) {
        return term >= 0 && term < ratios.length ? ratios[term] : NONE;
    }

    // ---- a year

    // The document's order of the generations can not be seen in any answer, as none touches another
    // and the estate takes the sum of their charges; so they are taken as they came.
    private void growGenerations(int rate) {
        for (int i = 0; i < generations.length; i++) {
            Generation grown = generations[i];
            if (grown != null && grown.premiums > 0) {
                grown.fund.amount += grown.premiums;
                assets += grown.premiums;
                assets += grown.fund.earn(rate);
                estate += grown.fund.takeCharge(charge);
            }
        }
    }

    private void growPoliciesAlone(int rate) {
        for (int i = 0; i < policies.length; i++) {
            Policy grown = policies[i];
            if (grown != null && grown.isInForce()) {
                grown.alone.amount += grown.premium;
                grown.alone.earn(rate);
                grown.alone.takeCharge(charge);
            }
        }
    }

    private void giveBonuses() {
        for (int i = 0; i < policies.length; i++) {
            Policy given = policies[i];
            if (given != null && given.isInForce()) {
                given.bonuses += thousandths(given.guaranteed(), bonusRate);
            }
        }
    }

    private int maturePolicies() {
        for (int term = 0; term < ratiosBefore.length; term++) {
            ratiosBefore[term] = ratioIn(lastRatios, term);
        }
        int matured = 0;
        for (int i = 0; i < policies.length; i++) {
            Policy due = policies[i];
            if (due != null && due.isInForce() && yearsRun(due) + 1 >= due.generation.term) {
                mature(due);
                matured++;
            }
        }
        return matured;
    }

    // ---- payouts

    private void mature(Policy policy) {
        int term = policy.generation.term;
        long allPremiums = (long) term * policy.premium;
        long target = thousandths(policy.assetShare(), scale);
        long smoothed = smooth(parted(target * WHOLE, allPremiums), ratioIn(ratiosBefore, term));
        if (term >= 0 && term < lastRatios.length) {
            lastRatios[term] = smoothed;
        }
        long payout = Math.max(thousandths(allPremiums, smoothed), policy.guaranteed());
        close(policy, MATURED, payout);
    }

    private long smooth(long ratio, long last) {
        if (last == NONE) {
            return ratio;
        }
        long most = thousandths(last, step);
        return Math.min(Math.max(ratio, last - most), last + most);
    }

    private long surrenderWorth(Policy policy) {
        int years = yearsRun(policy);
        long part = WORTH_AT_FIRST + parted((long) WORTH_GAINED_BY_TERM * years, policy.generation.term);
        long byShare = thousandths(policy.assetShare(), part);
        long byPremiums = thousandths((long) years * policy.premium, floor);
        return Math.max(0, Math.max(byShare, byPremiums));
    }

    private void close(Policy policy, int state, long payment) {
        estate += policy.generation.release(policy.premium) - payment;
        assets -= payment;
        policy.state = state;
        policy.paid = payment;
    }

    // ---- rounding down

    /** Below 0 too, as the estate can be there and rates can. */
    private static long thousandths(long amount, long rate) {
        return Math.floorDiv(amount * rate, 1000L);
    }

    /** Of amounts that are never below 0: years, targets and asset shares. */
    private static long parted(long amount, long divisor) {
        return divisor > 0 ? amount / divisor : 0;
    }

    /** Money that earns rates and bears charges. */
    private static final class Fund {
        private long amount;

        private long earn(int rate) {
            long earned = thousandths(amount, rate);
            amount += earned;
            return earned;
        }

        private long takeCharge(int charge) {
            long taken = amount > 0 ? thousandths(amount, charge) : 0;
            amount -= taken;
            return taken;
        }
    }

    private static final class Generation {
        private final int begun;
        private final int term;
        private final Fund fund;
        /** Of the policies that are in force, for one year. */
        private long premiums;

        private Generation(int begun, int term) {
            this.begun = begun;
            this.term = term;
            fund = new Fund();
        }

        private long shareFor(int premium) {
            return parted(fund.amount * premium, premiums);
        }

        /** Lets a policy go, and returns what goes to the estate with it. */
        private long release(int premium) {
            long released = shareFor(premium);
            premiums -= premium;
            if (premiums <= 0) {
                released = fund.amount;
            }
            fund.amount -= released;
            return released;
        }
    }

    private static final class Policy {
        private final Generation generation;
        private final int premium;
        private final int sum;
        private final Fund alone;
        private long bonuses;
        private int state;
        private long paid;

        private Policy(Generation generation, int premium, int sum) {
            this.generation = generation;
            this.premium = premium;
            this.sum = sum;
            alone = new Fund();
            state = IN_FORCE;
            paid = NONE;
        }

        private boolean isInForce() {
            return state == IN_FORCE;
        }

        private long guaranteed() {
            return sum + bonuses;
        }

        private long assetShare() {
            return isInForce() ? generation.shareFor(premium) : 0;
        }
    }
}
