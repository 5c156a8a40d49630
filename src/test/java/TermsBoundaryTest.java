/** The boundary cases that the document names under 'Terms', each by the sentence that names it. */
public final class TermsBoundaryTest {
    private static final Class<IllegalArgumentException> ARGUMENT = IllegalArgumentException.class;
    private static final Class<IllegalStateException> STATE = IllegalStateException.class;
    private static final Class<IndexOutOfBoundsException> INDEX = IndexOutOfBoundsException.class;

    private static final Sentences DOCUMENT = new Sentences();

    public static void main(String[] args) {
        whatItIs();
        policies();
        shares();
        aYear();
        earnedRates();
        charges();
        estate();
        bonuses();
        maturing();
        targetsAndRatios();
        smoothingSteps();
        smoothingTerms();
        smoothingTogether();
        payouts();
        surrenders();
        surrenderedShares();
        lastOfAGeneration();
        assets();
        exceptions();
        DOCUMENT.allTested("Policies", "A year", "Payouts", "Exceptions");
        Check.end("TermsBoundaryTest");
    }

    private static void whatItIs() {
        DOCUMENT.section("What it is");
        DOCUMENT.test("An object is used for at most 512 calls after it has been made", () -> {
            ProfitsOffice office = new ProfitsOffice();
            for (int call = 1; call < 512; call++) {
                office.endow(1000000);
            }
            Check.equal("the call number 512", 512000000L, office.endow(1000000));
        });
    }

    private static void policies() {
        DOCUMENT.section("Policies");
        DOCUMENT.test("Years are numbered from 0; there are at most 30 policies, numbered from 0.", () -> {
            ProfitsOffice office = new ProfitsOffice();
            Check.equal("the first year", 0, office.year());
            Check.equal("the first policy", 0, office.begin(2, 1, 0));
            for (int number = 1; number < 29; number++) {
                office.begin(2, 1, 0);
            }
            Check.equal("29 policies", 29, office.policies());
            Check.equal("the last policy", 29, office.begin(2, 1, 0));
            Check.refused("a policy more", STATE, Offices::full, o -> o.begin(2, 1, 0));
        });
        DOCUMENT.test("A policy has the year in which it begins, a term, 2 to 20 years, a yearly premium, and", () -> {
            ProfitsOffice office = Offices.plain();
            office.begin(2, 1, 0);
            office.begin(20, 1000, 100000);
            office.run(0);
            Check.equal("the least premium", 1, office.generation(0, 2));
            Check.equal("the greatest premium", 1000, office.generation(0, 20));
            Check.equal("the greatest sum, above its share", 99000, office.shortfall());
            Check.equal("the least term ends", 1, office.run(0));
            Offices.runTo(office, 19);
            Check.equal("the greatest term goes on", ProfitsOffice.IN_FORCE, office.stateOf(1));
            Check.equal("the greatest term ends", 1, office.run(0));
            Check.equal("the greatest sum is paid", 100000, office.paid(1));
        });
        DOCUMENT.test("It is IN_FORCE, MATURED or SURRENDERED.", () -> {
            ProfitsOffice office = Offices.mixed();
            Check.equal("in force", 0, office.stateOf(0));
            Check.equal("surrendered", 2, office.stateOf(1));
            Check.equal("matured", 1, office.stateOf(2));
            Check.equal("just begun", 0, office.stateOf(3));
        });
        DOCUMENT.test("A policy has bonuses, 0 at first.", () -> {
            ProfitsOffice office = new ProfitsOffice();
            office.setRates(200, 0);
            office.begin(2, 1, 100000);
            Check.equal("in year 0", 0, office.bonuses(0));
            office.run(0);
            office.begin(2, 1, 100000);
            Check.equal("begun later", 0, office.bonuses(1));
        });
        DOCUMENT.test("What is guaranteed is its sum and its bonuses, together.", () -> {
            ProfitsOffice office = new ProfitsOffice();
            office.setRates(200, 0);
            office.begin(3, 1, 0);
            Check.equal("of the sum 0", 0, office.shortfall());
            office.begin(3, 1, 100000);
            Check.equal("of the sum 100000", 100000, office.shortfall());
            office.run(-200);
            Check.equal("with its bonus", 120000, office.shortfall() + office.shareOf(1));
        });
    }

    private static void shares() {
        DOCUMENT.section("Policies");
        DOCUMENT.test("All policies with the same year and the same term are a generation.", () -> {
            ProfitsOffice one = Offices.plain();
            Offices.beginThirty(one, 20, 1000, 0);
            one.run(0);
            Check.equal("30 policies in one", 30000, one.generation(0, 20));
            ProfitsOffice many = Offices.plain();
            for (int year = 0; year < 2; year++) {
                for (int term = 6; term <= 20; term++) {
                    many.begin(term, 100 * year + term, 0);
                }
                many.run(0);
            }
            for (int term = 6; term <= 20; term++) {
                Check.equal("30 policies in 30, those of the year 0", 2 * term, many.generation(0, term));
                Check.equal("30 policies in 30, those of the year 1", 100 + term, many.generation(1, term));
            }
            ProfitsOffice office = Offices.plain();
            office.begin(3, 10, 0);
            office.begin(4, 200, 0);
            office.run(0);
            office.begin(3, 300, 0);
            office.run(0);
            Check.equal("another term is another one", 400, office.generation(0, 4));
            Check.equal("another year is another one", 300, office.generation(1, 3));
            Check.equal("neither is in it", 20, office.generation(0, 3));
        });
        DOCUMENT.test("A generation has an asset share; that of a policy in force is the asset share of its", () -> {
            ProfitsOffice office = Offices.plain();
            office.begin(20, 1000, 0);
            office.begin(20, 1, 0);
            Check.equal("nothing to share", 0, office.shareOf(0));
            office.run(-1);
            // 1001 - 2 (of 1.001) = 999, shared by 1001.
            Check.equal("rounded down", 998, office.shareOf(0));
            Check.equal("rounded down to 0", 0, office.shareOf(1));
            office.run(1);
            // 999 + 1001 = 2000, and 2 on it: twice the premiums.
            Check.equal("exactly its part", 2000, office.shareOf(0));
            Check.equal("exactly its part too", 2, office.shareOf(1));
            office.surrender(0);
            Check.equal("alone, it has all", office.generation(0, 20), office.shareOf(1));
            ProfitsOffice even = Offices.plain();
            Offices.beginThirty(even, 2, 1, 0);
            even.run(-200);
            Check.equal("24 for 30: none has a whole one", 0, even.shareOf(0) + even.shareOf(29));
            ProfitsOffice exact = Offices.plain();
            Offices.beginThirty(exact, 2, 7, 0);
            exact.run(0);
            Check.equal("of 30 alike", 7, exact.shareOf(29));
        });
    }

    private static void aYear() {
        DOCUMENT.section("A year");
        DOCUMENT.test("A year is run with an earned rate, in thousandths.", () -> {
            Check.equal("the greatest", 1200, afterAYear(0, 1000, 200));
            Check.equal("none", 1000, afterAYear(0, 1000, 0));
            Check.equal("the least", 800, afterAYear(0, 1000, -200));
        });
        DOCUMENT.test("For each generation with policies in force, by rising years in which they began", () -> {
            ProfitsOffice none = new ProfitsOffice();
            Check.equal("no generation", 0, none.run(200));
            Check.equal("no generation, no money", 0, none.assets());
            ProfitsOffice empty = Offices.plain();
            empty.begin(3, 100, 0);
            empty.begin(2, 100, 0);
            empty.run(0);
            empty.surrender(0);
            empty.run(0);
            long closed = empty.assets();
            empty.setRates(0, 100);
            empty.run(0);
            Check.equal("no policy in force: surrendered", 0, empty.generation(0, 3));
            Check.equal("no policy in force: matured", 0, empty.generation(0, 2));
            Check.equal("no policy in force: no money", closed, empty.assets());
            Check.equal("no policy in force: no charge", closed, empty.estate());
        });
        DOCUMENT.test("The premiums of its policies in force are added to its asset share.", () -> {
            ProfitsOffice office = Offices.plain();
            office.begin(4, 1000, 0);
            office.begin(4, 1, 0);
            Check.equal("none ahead of the year", 0, office.generation(0, 4));
            office.run(0);
            Check.equal("of both", 1001, office.generation(0, 4));
            office.surrender(0);
            office.run(0);
            Check.equal("of the one in force", 2, office.generation(0, 4));
        });
        DOCUMENT.test("Then the year is over, and the next one goes on.", () -> {
            ProfitsOffice office = new ProfitsOffice();
            for (int year = 0; year < 40; year++) {
                Check.equal("the year that goes on", year, office.year());
                office.run(0);
            }
            Check.equal("the year 40", 40, office.year());
            Check.refused("no next one", STATE, Offices::inYear40, o -> o.run(0));
        });
    }

    /** The asset share of a generation of one policy, after its first year. */
    private static int afterAYear(int charge, int premium, int rate) {
        ProfitsOffice office = new ProfitsOffice();
        office.setRates(0, charge);
        office.begin(2, premium, 0);
        office.run(rate);
        return office.generation(0, 2);
    }

    private static void earnedRates() {
        DOCUMENT.section("A year");
        DOCUMENT.test("The asset share times the rate / 1000, rounded down (also below 0), is added to it.", () -> {
            Check.equal("999 at 1: 0 (of 0.999)", 999, afterAYear(0, 999, 1));
            Check.equal("1000 at 1: 1", 1001, afterAYear(0, 1000, 1));
            Check.equal("4 at 200: 0 (of 0.8)", 4, afterAYear(0, 4, 200));
            Check.equal("5 at 200: 1", 6, afterAYear(0, 5, 200));
            Check.equal("9 at 200: 1 (of 1.8)", 10, afterAYear(0, 9, 200));
            Check.equal("1 at -1: -1 (of -0.001)", 0, afterAYear(0, 1, -1));
            Check.equal("999 at -1: -1 (of -0.999)", 998, afterAYear(0, 999, -1));
            Check.equal("1000 at -1: -1", 999, afterAYear(0, 1000, -1));
            Check.equal("5 at -200: -1", 4, afterAYear(0, 5, -200));
            Check.equal("6 at -200: -2 (of -1.2)", 4, afterAYear(0, 6, -200));
            Check.equal("1 at -200: it is 0 at least", 0, afterAYear(0, 1, -200));
            Check.equal("1 at 0", 1, afterAYear(0, 1, 0));
        });
    }

    private static void charges() {
        DOCUMENT.section("A year");
        DOCUMENT.test("The asset share times the charge / 1000, rounded down, is taken off", () -> {
            Check.equal("9 at 100: 0 (of 0.9)", 9, afterAYear(100, 9, 0));
            Check.equal("10 at 100: 1", 9, afterAYear(100, 10, 0));
            Check.equal("19 at 100: 1 (of 1.9)", 18, afterAYear(100, 19, 0));
            Check.equal("999 at 1: 0 (of 0.999)", 999, afterAYear(1, 999, 0));
            Check.equal("1000 at 1: 1", 999, afterAYear(1, 1000, 0));
            Check.equal("1000 at 0: 0", 1000, afterAYear(0, 1000, 0));
            Check.equal("after the rate: 1200 at 100: 120", 1080, afterAYear(100, 1000, 200));
            ProfitsOffice nothing = new ProfitsOffice();
            nothing.setRates(0, 100);
            nothing.begin(2, 1, 0);
            nothing.run(-200);
            Check.equal("an asset share of 0", 0, nothing.generation(0, 2));
            Check.equal("an asset share of 0 bears none", 0, nothing.estate());
            ProfitsOffice little = new ProfitsOffice();
            little.setRates(0, 100);
            little.begin(2, 10, 0);
            little.run(0);
            Check.equal("to the estate", 1, little.estate());
            Check.equal("neither in nor out", 10, little.assets());
        });
        DOCUMENT.test("The charge is 5 thousandths at first.", () -> {
            ProfitsOffice office = new ProfitsOffice();
            office.begin(2, 199, 0);
            office.begin(3, 200, 0);
            office.run(0);
            Check.equal("0 (of 0.995)", 199, office.generation(0, 2));
            Check.equal("1", 199, office.generation(0, 3));
            Check.equal("1 to the estate", 1, office.estate());
        });
    }

    private static void estate() {
        DOCUMENT.section("A year");
        DOCUMENT.test("Then the estate, as it was ahead of the year, times the rate / 1000", () -> {
            Check.equal("0 at 200", 0, estateAfter(0, 200));
            Check.equal("4 at 200: 0 (of 0.8)", 4, estateAfter(4, 200));
            Check.equal("5 at 200: 1", 6, estateAfter(5, 200));
            Check.equal("999 at 1: 0 (of 0.999)", 999, estateAfter(999, 1));
            Check.equal("1000 at 1: 1", 1001, estateAfter(1000, 1));
            Check.equal("1 at -1: -1 (of -0.001)", 0, estateAfter(1, -1));
            Check.equal("1000 at -200: -200", 800, estateAfter(1000, -200));
            Check.equal("-1 at 1: -1 (of -0.001)", -2, estateAfter(-1, 1));
            Check.equal("-1000 at 1: -1", -1001, estateAfter(-1000, 1));
            Check.equal("-1001 at 1: -2 (of -1.001)", -1003, estateAfter(-1001, 1));
            Check.equal("-1 at -1: 0 (of 0.001)", -1, estateAfter(-1, -1));
            Check.equal("-1000 at -1: 1", -999, estateAfter(-1000, -1));
            Check.equal("-1 at 0", -1, estateAfter(-1, 0));
            ProfitsOffice office = new ProfitsOffice();
            office.setRates(0, 100);
            office.endow(-5);
            office.begin(2, 1000, 0);
            office.run(200);
            Check.equal("the charge of the year earns nothing", -5 - 1 + 120, office.estate());
        });
    }

    private static long estateAfter(int endowed, int rate) {
        ProfitsOffice office = new ProfitsOffice();
        office.endow(endowed);
        office.run(rate);
        Check.equal("the assets with it", office.estate(), office.assets());
        return office.estate();
    }

    private static void bonuses() {
        DOCUMENT.section("A year");
        DOCUMENT.test("Then each policy in force, by rising numbers, gets a bonus", () -> {
            Check.equal("4 at 200: 0 (of 0.8)", 0, bonusOf(200, 4));
            Check.equal("5 at 200: 1", 1, bonusOf(200, 5));
            Check.equal("9 at 200: 1 (of 1.8)", 1, bonusOf(200, 9));
            Check.equal("0 at 200: 0", 0, bonusOf(200, 0));
            Check.equal("100000 at 200", 20000, bonusOf(200, 100000));
            Check.equal("100000 at 0", 0, bonusOf(0, 100000));
            Check.equal("999 at 1: 0 (of 0.999)", 0, bonusOf(1, 999));
            Check.equal("1000 at 1: 1", 1, bonusOf(1, 1000));
            ProfitsOffice office = new ProfitsOffice();
            office.setRates(200, 0);
            office.begin(2, 1, 4);
            office.begin(2, 1, 5);
            office.begin(3, 1, 9);
            office.begin(3, 1, 100);
            office.run(0);
            office.surrender(3);
            office.run(0);
            Check.equal("never of too little", 0, office.bonuses(0));
            Check.equal("in the year of its maturity too", 2, office.bonuses(1));
            Check.equal("the bonus counts: 10 at 200, 2", 3, office.bonuses(2));
            Check.equal("surrendered, no more", 20, office.bonuses(3));
            office.run(0);
            Check.equal("matured, no more", 2, office.bonuses(1));
        });
        DOCUMENT.test("The bonus rate is 20 thousandths at first.", () -> {
            ProfitsOffice office = new ProfitsOffice();
            office.begin(2, 1, 49);
            office.begin(2, 1, 50);
            office.begin(2, 1, 100000);
            office.run(0);
            Check.equal("0 (of 0.98)", 0, office.bonuses(0));
            Check.equal("1", 1, office.bonuses(1));
            Check.equal("2000", 2000, office.bonuses(2));
        });
    }

    private static int bonusOf(int rate, int sum) {
        ProfitsOffice office = new ProfitsOffice();
        office.setRates(rate, 0);
        office.begin(2, 1, sum);
        office.run(0);
        return office.bonuses(0);
    }

    private static void maturing() {
        DOCUMENT.section("A year");
        DOCUMENT.test("Then policies mature: those in force that have been so for as many years as their term", () -> {
            for (int term = 2; term <= 20; term++) {
                ProfitsOffice office = Offices.plain();
                office.begin(term, 1, 0);
                Offices.runTo(office, term - 1);
                Check.equal("a year ahead of the term " + term, ProfitsOffice.IN_FORCE, office.stateOf(0));
                Check.equal("the term " + term + ", the last year included", 1, office.run(0));
                Check.equal("matured after " + term, ProfitsOffice.MATURED, office.stateOf(0));
                Check.equal("once alone", 0, office.run(0));
            }
            ProfitsOffice late = Offices.plain();
            Offices.runTo(late, 20);
            late.begin(20, 1, 0);
            late.run(0);
            late.begin(20, 1, 0);
            Offices.runTo(late, 38);
            late.begin(2, 1, 0);
            late.run(0);
            late.begin(2, 1, 0);
            Check.equal("by the last year that can be run", 2, late.run(0));
            Check.equal("of 20 years from 20 on", ProfitsOffice.MATURED, late.stateOf(0));
            Check.equal("of 20 years from 21 on", ProfitsOffice.IN_FORCE, late.stateOf(1));
            Check.equal("of 2 years from 38 on", ProfitsOffice.MATURED, late.stateOf(2));
            Check.equal("of 2 years from 39 on", ProfitsOffice.IN_FORCE, late.stateOf(3));
            ProfitsOffice surrendered = Offices.plain();
            surrendered.begin(2, 1, 0);
            surrendered.run(0);
            surrendered.surrender(0);
            Check.equal("not in force any more", 0, surrendered.run(0));
            Check.equal("still surrendered", ProfitsOffice.SURRENDERED, surrendered.stateOf(0));
            ProfitsOffice all = Offices.plain();
            Offices.beginThirty(all, 2, 1, 0);
            all.run(0);
            Check.equal("30 in one year", 30, all.run(0));
        });
        DOCUMENT.test("this one included, by rising numbers", () -> {
            // 4 - 1 = 3; 7 - 2 (of 1.4) = 5 for premiums of 3 and 1.
            ProfitsOffice down = together(3, 1);
            Check.equal("3 (of 3.75)", 3, down.paid(0));
            Check.equal("the 2 that are left", 2, down.paid(1));
            ProfitsOffice up = together(1, 3);
            // 1 (of 1.25): the ratio is 500. The 4 that are left: the ratio is 666 (of 666.7), 3 (of 3.996).
            Check.equal("1 (of 1.25)", 1, up.paid(0));
            Check.equal("3 of the 4 that are left", 3, up.paid(1));
            Check.equal("the last ratio is of the higher number", 666, up.lastRatio(2));
        });
    }

    private static ProfitsOffice together(int premium, int other) {
        ProfitsOffice office = Offices.plain();
        office.begin(2, premium, 0);
        office.begin(2, other, 0);
        Offices.runYears(office, 2, -200);
        return office;
    }

    /** After a policy of 2 years with this premium, by these rates, has matured. */
    private static ProfitsOffice matured(int premium, int sum, int scale, int first, int second) {
        ProfitsOffice office = Offices.plain();
        office.setScale(scale, 100, 500);
        office.begin(2, premium, sum);
        office.run(first);
        office.run(second);
        return office;
    }

    private static void targetsAndRatios() {
        DOCUMENT.section("Payouts");
        DOCUMENT.test("The target of a policy that matures is its asset share times the scale / 1000", () -> {
            ProfitsOffice least = matured(1, 0, 500, -200, 0);
            Check.equal("half of a share of 1: the target is 0 (of 0.5)", 0, least.lastRatio(2));
            Check.equal("nothing is paid, which is not NONE", 0, least.paid(0));
            Check.equal("the estate has the 1", 1, least.estate());
            Check.equal("1.5 of 1: the target is 1", 500, matured(1, 0, 1500, -200, 0).lastRatio(2));
            Check.equal("1.5 of 2: the target is 3", 1500, matured(1, 0, 1500, 0, 0).lastRatio(2));
            Check.equal("0.999 of 2: the target is 1", 500, matured(1, 0, 999, 0, 0).lastRatio(2));
            // 1 at -200 twice is 0, and 0 again.
            Check.equal("of a share of 0", 0, matured(1, 0, 1500, -200, -200).lastRatio(2));
            Check.equal("2640, half", 660, matured(1000, 0, 500, 200, 200).lastRatio(2));
            Check.equal("2640, and half", 1980, matured(1000, 0, 1500, 200, 200).lastRatio(2));
            Check.equal("1440, and half", 1080, matured(1000, 0, 1500, -200, -200).lastRatio(2));
            ProfitsOffice third = Offices.plain();
            third.begin(3, 1, 0);
            third.run(-200);
            Offices.runYears(third, 2, 0);
            Check.equal("the ratio of 2 and 3, rounded down", 666, third.lastRatio(3));
            Check.equal("666 of 3, rounded down", 1, third.paid(0));
            ProfitsOffice atFirst = new ProfitsOffice();
            atFirst.setRates(0, 0);
            atFirst.begin(2, 1000, 0);
            Offices.runYears(atFirst, 2, 0);
            Check.equal("1000 thousandths at first", 1000, atFirst.lastRatio(2));
            Check.equal("all of the share", 2000, atFirst.paid(0));
        });
        DOCUMENT.test("For each term there is a last ratio, none at first.", () -> {
            ProfitsOffice office = Offices.plain();
            for (int term = 2; term <= 20; term++) {
                Check.equal("none of " + term, ProfitsOffice.NONE, office.lastRatio(term));
                office.begin(term, term, 0);
            }
            for (int term = 2; term <= 20; term++) {
                Offices.runTo(office, term - 1);
                Check.equal("none yet of " + term, ProfitsOffice.NONE, office.lastRatio(term));
                office.run(0);
                Check.equal("of " + term, 1000, office.lastRatio(term));
            }
        });
    }

    /** The last ratio of 2 years after a first one of 1000 and another policy, by a rate in its last year. */
    private static int smoothed(int step, int rate) {
        ProfitsOffice office = Offices.plain();
        office.begin(2, 1000, 0);
        Offices.runYears(office, 2, 0);
        office.setScale(1000, step, 500);
        office.begin(2, 1000, 0);
        office.run(0);
        office.run(rate);
        return office.lastRatio(2);
    }

    /** As smoothed, after a first ratio of 999. */
    private static int smoothedFrom999(int step, int rate) {
        ProfitsOffice office = Offices.plain();
        office.begin(2, 1000, 0);
        office.run(0);
        office.run(-1);
        Check.equal("1998 of 2000", 999, office.lastRatio(2));
        office.setScale(1000, step, 500);
        office.begin(2, 1000, 0);
        office.run(0);
        office.run(rate);
        return office.lastRatio(2);
    }

    private static void smoothingSteps() {
        DOCUMENT.section("Payouts");
        DOCUMENT.test("With a last ratio, the smoothed ratio is the ratio, but at least the last ratio less", () -> {
            Check.equal("1099, within", 1099, smoothed(100, 99));
            Check.equal("1100, the most", 1100, smoothed(100, 100));
            Check.equal("1101, above the most", 1100, smoothed(100, 101));
            Check.equal("901, within", 901, smoothed(100, -99));
            Check.equal("900, the least", 900, smoothed(100, -100));
            Check.equal("899, below the least", 900, smoothed(100, -101));
            Check.equal("no step, above", 1000, smoothed(0, 1));
            Check.equal("no step, the same", 1000, smoothed(0, 0));
            Check.equal("no step, below", 1000, smoothed(0, -1));
            Check.equal("a step of 1, above", 1001, smoothed(1, 200));
            Check.equal("a step of 1, below", 999, smoothed(1, -200));
            Check.equal("the greatest step, above", 1200, smoothed(1000, 200));
            Check.equal("the greatest step, below", 800, smoothed(1000, -200));
            Check.equal("99 (of 99.9) more", 1098, smoothedFrom999(100, 100));
            Check.equal("99 (of 99.9) less", 900, smoothedFrom999(100, -101));
            Check.equal("0 (of 0.999) more", 999, smoothedFrom999(1, 1));
            Check.equal("0 (of 0.999) less", 999, smoothedFrom999(1, -2));
            Check.equal("the greatest step, to 0", 0, fromAndTo(500, 1000, 1, -200));
            // The last ratio is 360, then one of 1980.
            Check.equal("the greatest step, to twice the last", 720, fromAndTo(500, 1500, 1000, 200));
            ProfitsOffice zero = matured(1, 0, 500, -200, -200);
            Check.equal("a last ratio of 0", 0, zero.lastRatio(2));
            zero.setScale(1500, 1000, 500);
            zero.begin(2, 1000, 0);
            Offices.runYears(zero, 2, 200);
            Check.equal("a last ratio of 0 is one: it stays", 0, zero.lastRatio(2));
            Check.equal("and nothing is paid", 0, zero.paid(1));
        });
    }

    private static void smoothingTerms() {
        DOCUMENT.section("Payouts");
        DOCUMENT.test("and at most the last ratio and that", () -> {
            for (int term = 2; term <= 20; term++) {
                ProfitsOffice office = Offices.plain();
                office.begin(term, 1000, 0);
                Offices.runYears(office, term, 0);
                office.begin(term, 1000, 0);
                Offices.runYears(office, term - 1, 0);
                office.run(200);
                // The ratio is 1200, and what came ahead of it 1000.
                Check.equal("for the term " + term, 1100, office.lastRatio(term));
            }
        });
        DOCUMENT.test("the step is 100 thousandths at first", () -> {
            Check.equal("1100 at most", 1100, smoothedAtFirst(101));
            Check.equal("900 at least", 900, smoothedAtFirst(-101));
        });
        DOCUMENT.test("Without a last ratio it is the ratio.", () -> {
            ProfitsOffice office = Offices.plain();
            office.setScale(1500, 0, 500);
            office.begin(2, 1000, 0);
            office.begin(3, 1000, 0);
            Offices.runYears(office, 2, 200);
            Check.equal("of 2 years", 1980, office.lastRatio(2));
            Check.equal("paid by it", 3960, office.paid(0));
            office.run(-200);
            // 2640 + 1000 = 3640, at -200 2912, by the scale 4368, by 3000 premiums 1456.
            Check.equal("of 3 years, whatever that of 2 years is", 1456, office.lastRatio(3));
        });
        DOCUMENT.test("It is the last ratio of the term then.", () -> {
            ProfitsOffice office = matured(1000, 100000, 1000, 0, 0);
            Check.equal("also if more is guaranteed", 1000, office.lastRatio(2));
            office.begin(2, 1000, 0);
            office.run(0);
            office.run(200);
            Check.equal("the smoothed one, not the ratio of 1200", 1100, office.lastRatio(2));
            office.begin(2, 1000, 0);
            office.run(0);
            office.run(200);
            Check.equal("the next is smoothed by that, to the ratio of 1200", 1200, office.lastRatio(2));
            office.begin(2, 1000, 0);
            office.run(0);
            office.surrender(3);
            office.run(-200);
            Check.equal("a surrender leaves it", 1200, office.lastRatio(2));
        });
    }

    /** The last ratio after two policies in a row, by these scales; both earn one rate in all years. */
    private static int fromAndTo(int scale, int otherScale, int premium, int otherRate) {
        ProfitsOffice office = matured(1000, 0, scale, -200, -200);
        Check.equal("the first one", 360, office.lastRatio(2));
        office.setScale(otherScale, 1000, 500);
        office.begin(2, premium, 0);
        Offices.runYears(office, 2, otherRate);
        return office.lastRatio(2);
    }

    private static int smoothedAtFirst(int rate) {
        ProfitsOffice office = Offices.plain();
        office.begin(2, 1000, 0);
        Offices.runYears(office, 2, 0);
        office.begin(2, 1000, 0);
        office.run(0);
        office.run(rate);
        return office.lastRatio(2);
    }

    private static void smoothingTogether() {
        DOCUMENT.section("Payouts");
        DOCUMENT.test("(Policies of one term that mature in one year are smoothed one after the other", () -> {
            // Shares of 3 and 2 for premiums of 3 and 1: ratios of 500 and 1000.
            ProfitsOffice first = together(3, 1);
            Check.equal("none when the year began: the second by its own", 2, first.paid(1));
            Check.equal("the last one leaves its own", 1000, first.lastRatio(2));
            ProfitsOffice office = Offices.plain();
            office.begin(2, 1000, 0);
            Offices.runYears(office, 2, 0);
            office.setScale(1500, 150, 500);
            office.begin(2, 3, 0);
            office.begin(2, 1, 0);
            Offices.runYears(office, 2, -200);
            // Ratios of 666 and 1500, by a last one of 1000: 850 and 1150.
            Check.equal("850 of 6", 5, office.paid(1));
            Check.equal("1150 of 2", 2, office.paid(2));
            Check.equal("the last one leaves 1150", 1150, office.lastRatio(2));
            ProfitsOffice all = Offices.plain();
            Offices.beginThirty(all, 2, 1000, 0);
            Offices.runYears(all, 2, 200);
            Check.equal("30 together: the first", 2640, all.paid(0));
            Check.equal("30 together: the last", 2640, all.paid(29));
        });
    }

    private static void payouts() {
        DOCUMENT.section("Payouts");
        DOCUMENT.test("The payout is all its premiums times the smoothed ratio / 1000, rounded down", () -> {
            Check.equal("2000, of which 1999 are guaranteed", 2000, matured(1000, 1999, 1000, 0, 0).paid(0));
            Check.equal("2000, all guaranteed", 2000, matured(1000, 2000, 1000, 0, 0).paid(0));
            Check.equal("2000, and 2001 are guaranteed", 2001, matured(1000, 2001, 1000, 0, 0).paid(0));
            Check.equal("2, and 100000 are guaranteed", 100000, matured(1, 100000, 1000, 0, 0).paid(0));
            Check.equal("0, and nothing is guaranteed", 0, matured(1, 0, 1000, -200, -200).paid(0));
            // 3 - 1 = 2, 5 - 1 = 4; the ratio is 666 (of 666.7), and 6 times that 3 (of 3.996).
            Check.equal("rounded down", 3, matured(3, 0, 1000, -200, -200).paid(0));
            ProfitsOffice withBonus = new ProfitsOffice();
            withBonus.setRates(200, 0);
            withBonus.begin(2, 1000, 1389);
            Offices.runYears(withBonus, 2, 0);
            // 1389 + 277 (of 277.8) + 333 (of 333.2) = 1999.
            Check.equal("with bonuses, 1999", 2000, withBonus.paid(0));
            ProfitsOffice more = new ProfitsOffice();
            more.setRates(200, 0);
            more.begin(2, 1000, 1390);
            Offices.runYears(more, 2, 0);
            // 1390 + 278 + 333 (of 333.6) = 2001.
            Check.equal("with bonuses, 2001", 2001, more.paid(0));
        });
        DOCUMENT.test("The asset share of the policy is taken from that of the generation", () -> {
            ProfitsOffice below = matured(1000, 0, 500, 0, 0);
            Check.equal("a share of 2000, 1000 paid", 1000, below.estate());
            ProfitsOffice even = matured(1000, 0, 1000, 0, 0);
            Check.equal("all is paid", 0, even.estate());
            ProfitsOffice above = matured(1000, 100000, 1000, 0, 0);
            Check.equal("a share of 2000, 100000 paid", -98000, above.estate());
            Check.equal("nothing is left", 0, above.generation(0, 2));
            Check.equal("the policy has none any more", 0, above.shareOf(0));
        });
    }

    private static void surrenders() {
        DOCUMENT.section("Payouts");
        DOCUMENT.test("A policy in force can be surrendered between years, when it has been in force", () -> {
            ProfitsOffice office = Offices.plain();
            office.begin(2, 1000, 0);
            office.begin(20, 1000, 0);
            office.begin(3, 1000, 0);
            Check.refused("not for a year", STATE, Offices::mixed, o -> o.surrender(3));
            office.run(0);
            Check.equal("after one of 2 years: 800", 800, office.worth(0));
            Check.equal("after one of 20 years: 620", 620, office.worth(1));
            Check.equal("after one of 3 years: 600 and 133 (of 133.3)", 733, office.worth(2));
            office.run(0);
            Check.equal("after 2 of 3 years: 600 and 266 (of 266.7)", 1732, office.worth(2));
            Offices.runTo(office, 19);
            Check.equal("after 19 of 20 years: 980", 18620, office.surrender(1));
            ProfitsOffice last = Offices.plain();
            Offices.runTo(last, 39);
            last.begin(2, 10, 0);
            last.run(0);
            Check.equal("in the year 40", 8, last.surrender(0));
        });
        DOCUMENT.test("rounded down, together) / 1000, rounded down, but at least its premiums paid", () -> {
            Check.equal("800, a floor of 799", 800, worthAfterAYear(1000, 0, 799));
            Check.equal("800, a floor of 800", 800, worthAfterAYear(1000, 0, 800));
            Check.equal("800, a floor of 801", 801, worthAfterAYear(1000, 0, 801));
            Check.equal("800, no floor", 800, worthAfterAYear(1000, 0, 0));
            Check.equal("800, all premiums", 1000, worthAfterAYear(1000, 0, 1000));
            Check.equal("960 and all premiums", 1000, worthAfterAYear(1000, 200, 1000));
            Check.equal("the floor, 0 (of 0.999)", 0, worthAfterAYear(1, -200, 999));
            Check.equal("the floor, 1", 1, worthAfterAYear(1, -200, 1000));
            Check.equal("the share, 0 (of 0.8)", 0, worthAfterAYear(1, 0, 0));
            Check.equal("the share, 4 (of 4.0)", 4, worthAfterAYear(5, 0, 0));
        });
        DOCUMENT.test("and at least 0; the floor is 500 thousandths at first", () -> {
            Check.equal("nothing of nothing", 0, worthAfterAYear(1, -200, 0));
            ProfitsOffice office = Offices.plain();
            office.begin(20, 1000, 0);
            office.run(-200);
            Check.equal("620 of 800 are less than 500", 500, office.worth(0));
            office.run(-200);
            // 1440, of which 640 thousandths are 921 (of 921.6).
            Check.equal("two premiums", 1000, office.worth(0));
        });
    }

    private static void surrenderedShares() {
        DOCUMENT.section("Payouts");
        DOCUMENT.test("Its asset share is taken and added, and its worth taken likewise.", () -> {
            ProfitsOffice office = Offices.plain();
            office.begin(2, 1000, 100000);
            office.begin(2, 1000, 0);
            office.run(0);
            office.surrender(0);
            Check.equal("the other's is left", 1000, office.generation(0, 2));
            Check.equal("the estate keeps the rest", 200, office.estate());
            Check.equal("the worth has left", 2000 - 800, office.assets());
            office.setScale(1000, 100, 1000);
            office.endow(-200);
            office.surrender(1);
            Check.equal("the estate keeps nothing", 0, office.estate());
            ProfitsOffice floored = Offices.plain();
            floored.setScale(1000, 100, 1000);
            floored.begin(2, 1000, 0);
            floored.run(-200);
            floored.surrender(0);
            Check.equal("the estate bears what the share lacks", -200, floored.estate());
        });
    }

    private static int worthAfterAYear(int premium, int rate, int floor) {
        ProfitsOffice office = Offices.plain();
        office.setScale(1000, 100, floor);
        office.begin(2, premium, 0);
        office.run(rate);
        int worth = office.worth(0);
        Check.equal("surrendered, it is as worth told", worth, office.surrender(0));
        return worth;
    }

    private static void lastOfAGeneration() {
        DOCUMENT.section("Payouts");
        DOCUMENT.test("With the last policy of a generation that is not in force any more", () -> {
            ProfitsOffice office = Offices.plain();
            office.setScale(1000, 100, 0);
            for (int i = 0; i < 3; i++) {
                office.begin(3, 1, 0);
            }
            office.run(-200);
            // 3 - 1 (of 0.6) = 2, of which a third is 0.
            Check.equal("the first has none of it", 0, office.surrender(0));
            Check.equal("it is left", 2, office.generation(0, 3));
            office.surrender(1);
            Check.equal("the second takes 1", 1, office.generation(0, 3));
            Check.equal("to the estate", 1, office.estate());
            office.surrender(2);
            Check.equal("nothing is left", 0, office.generation(0, 3));
            Check.equal("all is the estate's", 2, office.estate());
            ProfitsOffice together = together(3, 1);
            Check.equal("matured: nothing is left", 0, together.generation(0, 2));
            Check.equal("matured: the estate with it", together.assets(), together.estate());
            ProfitsOffice both = Offices.plain();
            both.begin(2, 3, 0);
            both.begin(2, 4, 0);
            both.run(-200);
            both.surrender(0);
            both.run(-200);
            Check.equal("one surrendered, one matured", 0, both.generation(0, 2));
            Check.equal("the estate with it", both.assets(), both.estate());
        });
    }

    private static void assets() {
        DOCUMENT.section("Payouts");
        DOCUMENT.test("The assets are all that came in by premiums and by rates, less all payouts and worths.", () -> {
            Check.equal("nothing came in", 0, new ProfitsOffice().assets());
            ProfitsOffice office = new ProfitsOffice();
            office.setRates(0, 100);
            office.begin(2, 1000, 0);
            Check.equal("no premium yet", 0, office.assets());
            office.run(200);
            Check.equal("a premium and its rate", 1200, office.assets());
            office.run(-200);
            // 1080 + 1000 = 2080, at -200 1664 (-416), less 166. The estate: 120 - 24, and 166.
            Check.equal("less the payout of 1498", 1200 + 1000 - 416 - 24 - 1498, office.assets());
            Check.equal("paid", 1498, office.paid(0));
            Check.equal("all closed: the estate", office.estate(), office.assets());
            Check.equal("by what came in and went out", office.sharesAndEstate(), office.assets());
            ProfitsOffice below = Offices.plain();
            below.begin(2, 1, 100000);
            Offices.runYears(below, 2, 0);
            Check.equal("below 0", 2 - 100000, below.assets());
        });
    }

    private static void exceptions() {
        DOCUMENT.section("Exceptions");
        DOCUMENT.test("IndexOutOfBoundsException: there is no such policy.", () -> {
            Check.refused("the least int", INDEX, Offices::mixed, o -> o.stateOf(Integer.MIN_VALUE));
            Check.refused("below the first", INDEX, Offices::mixed, o -> o.stateOf(-1));
            Check.refused("behind the last", INDEX, Offices::mixed, o -> o.stateOf(4));
            Check.refused("behind the 30th", INDEX, Offices::full, o -> o.stateOf(30));
            Check.refused("the greatest int", INDEX, Offices::mixed, o -> o.stateOf(Integer.MAX_VALUE));
            Check.equal("the first is there", ProfitsOffice.IN_FORCE, Offices.mixed().stateOf(0));
            Check.equal("the last is there", ProfitsOffice.IN_FORCE, Offices.mixed().stateOf(3));
            Check.equal("the 30th is there", ProfitsOffice.IN_FORCE, Offices.full().stateOf(29));
        });
        DOCUMENT.test("IllegalArgumentException: another argument is out of range.", () -> {
            Check.refused("begin", ARGUMENT, Offices::mixed, o -> o.begin(1, 1, 0));
            Check.refused("setRates", ARGUMENT, Offices::mixed, o -> o.setRates(201, 0));
            Check.refused("setScale", ARGUMENT, Offices::mixed, o -> o.setScale(499, 0, 0));
            Check.refused("endow", ARGUMENT, Offices::mixed, o -> o.endow(1000001));
            Check.refused("run", ARGUMENT, Offices::mixed, o -> o.run(201));
            Check.refused("generation", ARGUMENT, Offices::mixed, o -> o.generation(41, 2));
            Check.refused("lastRatio", ARGUMENT, Offices::mixed, o -> o.lastRatio(21));
        });
        DOCUMENT.test("IllegalStateException: as the method says.", () -> {
            Check.refused("begin", STATE, Offices::full, o -> o.begin(2, 1, 0));
            Check.refused("surrender", STATE, Offices::mixed, o -> o.surrender(1));
            Check.refused("run", STATE, Offices::inYear40, o -> o.run(0));
            Check.refused("worth", STATE, Offices::mixed, o -> o.worth(2));
        });
        DOCUMENT.test("The first line of a method's throws clause that applies decides; a call that throws", () -> {
            Check.refused("begin, with 30 policies", ARGUMENT, Offices::full, o -> o.begin(1, 1, 0));
            Check.refused("begin, in the year 40 too", ARGUMENT, Offices::fullInYear40, o -> o.begin(2, 0, 0));
            Check.refused("begin, all right but for its state", STATE, Offices::fullInYear40, o -> o.begin(2, 1, 0));
            Check.refused("run, in the year 40", ARGUMENT, Offices::inYear40, o -> o.run(201));
            Check.refused("run, with 30 policies too", ARGUMENT, Offices::fullInYear40, o -> o.run(-201));
            Check.refused("run, all right but for its state", STATE, Offices::fullInYear40, o -> o.run(200));
            Check.refused("surrender of no policy", INDEX, ProfitsOffice::new, o -> o.surrender(0));
            Check.refused("worth of no policy", INDEX, ProfitsOffice::new, o -> o.worth(0));
            // A wrong argument behind a right one: the right one is not taken over.
            Check.refused("setRates", ARGUMENT, Offices::mixed, o -> o.setRates(150, 101));
            Check.refused("setScale", ARGUMENT, Offices::mixed, o -> o.setScale(1400, 900, 1001));
        });
        DOCUMENT.test("`NONE = -1`: There is none.", () -> {
            Check.equal("NONE", -1, ProfitsOffice.NONE);
            Check.equal("no payout yet", ProfitsOffice.NONE, Offices.mixed().paid(0));
            Check.equal("no last ratio", ProfitsOffice.NONE, new ProfitsOffice().lastRatio(2));
        });
        DOCUMENT.test("`IN_FORCE = 0, MATURED = 1, SURRENDERED = 2`: States of policies.", () -> {
            Check.equal("IN_FORCE", 0, ProfitsOffice.IN_FORCE);
            Check.equal("MATURED", 1, ProfitsOffice.MATURED);
            Check.equal("SURRENDERED", 2, ProfitsOffice.SURRENDERED);
        });
    }
}
