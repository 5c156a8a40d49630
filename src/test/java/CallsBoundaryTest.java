import java.util.function.Consumer;
import java.util.function.ObjIntConsumer;
import java.util.function.Supplier;

/** The boundary cases of the promises 1 to 21, each by the sentence of its promise that names it. */
public final class CallsBoundaryTest {
    private static final Class<IllegalArgumentException> ARGUMENT = IllegalArgumentException.class;
    private static final Class<IllegalStateException> STATE = IllegalStateException.class;
    private static final Class<IndexOutOfBoundsException> INDEX = IndexOutOfBoundsException.class;
    private static final int LEAST_INT = Integer.MIN_VALUE;
    private static final int GREATEST_INT = Integer.MAX_VALUE;

    private static final Sentences DOCUMENT = new Sentences();

    public static void main(String[] args) {
        promise1();
        promise2();
        promise2Refused();
        promise3();
        promise4();
        promise5();
        promise6();
        promise7();
        promise8And9();
        promise10();
        promise11();
        promise12();
        promise13();
        promise14();
        promise15();
        promise16();
        promise17();
        promise18();
        promise19();
        promise20();
        promise21();
        DOCUMENT.allTested("Promise ");
        Check.end("CallsBoundaryTest");
    }

    /** In offices of all kinds, those too in which the call had another reason to throw. */
    private static void outOfRange(String call, Consumer<ProfitsOffice> made) {
        Check.refused(call, ARGUMENT, Offices::mixed, made);
        Check.refused(call + " of a new office", ARGUMENT, ProfitsOffice::new, made);
        Check.refused(call + " with 30 policies", ARGUMENT, Offices::full, made);
        Check.refused(call + " in the year 40", ARGUMENT, Offices::inYear40, made);
        Check.refused(call + " with 30 policies in the year 40", ARGUMENT, Offices::fullInYear40, made);
    }

    private static void noSuchPolicy(ObjIntConsumer<ProfitsOffice> made) {
        int[] none = {LEAST_INT, -2, -1, 4, 5, 29, 30, 31, GREATEST_INT};
        for (int policy : none) {
            Check.refused("policy " + policy + " of 4", INDEX, Offices::mixed, o -> made.accept(o, policy));
        }
        for (int policy = -1; policy <= 1; policy++) {
            int number = policy;
            Check.refused("policy " + policy + " of none", INDEX, ProfitsOffice::new, o -> made.accept(o, number));
        }
        Check.refused("policy 30 of 30", INDEX, Offices::full, o -> made.accept(o, 30));
        Check.refused("policy -1 of 30", INDEX, Offices::full, o -> made.accept(o, -1));
        Check.refused("policy 5 of 5 in the year 40", INDEX, Offices::inYear40, o -> made.accept(o, 5));
    }

    private static void notInForceForAYear(ObjIntConsumer<ProfitsOffice> made) {
        Check.refused("surrendered", STATE, Offices::mixed, o -> made.accept(o, 1));
        Check.refused("matured", STATE, Offices::mixed, o -> made.accept(o, 2));
        Check.refused("begun in this year", STATE, Offices::mixed, o -> made.accept(o, 3));
        Check.refused("begun in this year, the 30th", STATE, Offices::full, o -> made.accept(o, 29));
        Check.refused("begun in the year 40", STATE, Offices::inYear40, o -> made.accept(o, 4));
        Check.refused("matured long ago", STATE, Offices::inYear40, o -> made.accept(o, 0));
        Supplier<ProfitsOffice> inYear0 = () -> {
            ProfitsOffice office = new ProfitsOffice();
            office.begin(20, 1000, 100000);
            return office;
        };
        Check.refused("begun in the year 0", STATE, inYear0, o -> made.accept(o, 0));
    }

    private static void promise1() {
        DOCUMENT.section("Promise 1: A new object");
        DOCUMENT.test("Year 0, no policies, no estate.", () -> {
            ProfitsOffice office = new ProfitsOffice();
            Check.equal("year", 0, office.year());
            Check.equal("policies", 0, office.policies());
            Check.equal("estate", 0, office.estate());
            Check.equal("assets", 0, office.assets());
            Check.equal("shares and estate", 0, office.sharesAndEstate());
            Check.equal("shortfall", 0, office.shortfall());
            Check.refused("the policy 0", INDEX, ProfitsOffice::new, o -> o.stateOf(0));
            for (int term = 2; term <= 20; term++) {
                Check.equal("last ratio of " + term, ProfitsOffice.NONE, office.lastRatio(term));
                Check.equal("generation of the year 0", 0, office.generation(0, term));
                Check.equal("generation of the year 40", 0, office.generation(40, term));
            }
            Check.equal("nobody matures", 0, office.run(200));
            Check.equal("nothing earns nothing", 0, office.estate());
        });
    }

    private static void promise2() {
        DOCUMENT.section("Promise 2: begin");
        DOCUMENT.test("Begins a policy in the year that goes on.", () -> {
            ProfitsOffice office = Offices.plain();
            office.begin(20, 10, 0);
            Offices.runTo(office, 39);
            office.begin(20, 30, 0);
            Check.equal("its generation has nothing yet", 0, office.generation(39, 20));
            office.run(0);
            Check.equal("in the year 39", 30, office.generation(39, 20));
            office.begin(20, 40, 7);
            Check.equal("in the year 40", 3, office.policies());
            Check.equal("in force", ProfitsOffice.IN_FORCE, office.stateOf(2));
            Check.equal("without a share", 0, office.shareOf(2));
            Check.equal("without a payout", ProfitsOffice.NONE, office.paid(2));
            Check.equal("guaranteed at once", 7, office.shortfall());
            ProfitsOffice first = Offices.plain();
            first.begin(20, 10, 0);
            first.run(0);
            Check.equal("in the year 0", 10, first.generation(0, 20));
        });
        DOCUMENT.test("`term`: 2 to 20 years", () -> {
            Check.equal("2", 0, new ProfitsOffice().begin(2, 1, 0));
            Check.equal("20", 0, new ProfitsOffice().begin(20, 1, 0));
            int[] bad = {LEAST_INT, -2, 0, 1, 21, 22, GREATEST_INT};
            for (int term : bad) {
                outOfRange("begin(" + term + ", 1, 0)", o -> o.begin(term, 1, 0));
            }
        });
        DOCUMENT.test("`premium`: 1 to 1000", () -> {
            Check.equal("1", 0, new ProfitsOffice().begin(2, 1, 0));
            Check.equal("1000", 0, new ProfitsOffice().begin(2, 1000, 0));
            int[] bad = {LEAST_INT, -1, 0, 1001, GREATEST_INT};
            for (int premium : bad) {
                outOfRange("begin(2, " + premium + ", 0)", o -> o.begin(2, premium, 0));
            }
        });
        DOCUMENT.test("`sum`: 0 to 100000", () -> {
            Check.equal("0", 0, new ProfitsOffice().begin(2, 1, 0));
            Check.equal("100000", 0, new ProfitsOffice().begin(2, 1, 100000));
            int[] bad = {LEAST_INT, -1, 100001, GREATEST_INT};
            for (int sum : bad) {
                outOfRange("begin(2, 1, " + sum + ")", o -> o.begin(2, 1, sum));
            }
        });
        DOCUMENT.test("Returns its number.", () -> {
            ProfitsOffice office = new ProfitsOffice();
            for (int number = 0; number < 30; number++) {
                Check.equal("the number", number, office.begin(2 + number % 19, 1, 0));
            }
            ProfitsOffice closed = Offices.mixed();
            Check.equal("closed ones keep theirs", 4, closed.begin(2, 1, 0));
        });
    }

    private static ProfitsOffice thirtyMatured() {
        ProfitsOffice office = new ProfitsOffice();
        Offices.beginThirty(office, 2, 100, 50);
        Offices.runYears(office, 2, 0);
        return office;
    }

    private static ProfitsOffice thirtySurrendered() {
        ProfitsOffice office = new ProfitsOffice();
        Offices.beginThirty(office, 20, 100, 50);
        office.run(0);
        for (int policy = 0; policy < 30; policy++) {
            office.surrender(policy);
        }
        return office;
    }

    private static void promise2Refused() {
        DOCUMENT.section("Promise 2: begin");
        DOCUMENT.test("Throws `IllegalArgumentException` if term, premium or sum is out of range", () -> {
            outOfRange("begin(1, 0, -1)", o -> o.begin(1, 0, -1));
            outOfRange("begin(21, 1001, 100001)", o -> o.begin(21, 1001, 100001));
            outOfRange("begin(1, 1000, 100000)", o -> o.begin(1, 1000, 100000));
            outOfRange("begin(20, 0, 100000)", o -> o.begin(20, 0, 100000));
            outOfRange("begin(20, 1000, 100001)", o -> o.begin(20, 1000, 100001));
        });
        DOCUMENT.test("Throws `IllegalStateException` if there are 30 policies", () -> {
            ProfitsOffice office = new ProfitsOffice();
            for (int number = 0; number < 29; number++) {
                office.begin(2, 1, 0);
            }
            Check.equal("29, and one more", 29, office.begin(20, 1000, 100000));
            Check.refused("30 of all states", STATE, Offices::full, o -> o.begin(2, 1, 0));
            Check.refused("the greatest", STATE, Offices::full, o -> o.begin(20, 1000, 100000));
            Check.refused("30 matured", STATE, CallsBoundaryTest::thirtyMatured, o -> o.begin(2, 1, 0));
            Check.refused("30 surrendered", STATE, CallsBoundaryTest::thirtySurrendered, o -> o.begin(2, 1, 0));
            Check.refused("in the year 40", STATE, Offices::fullInYear40, o -> o.begin(2, 1, 0));
        });
    }

    private static void promise3() {
        DOCUMENT.section("Promise 3: surrender");
        DOCUMENT.test("Surrenders a policy.", () -> {
            ProfitsOffice office = new ProfitsOffice();
            office.begin(2, 1000, 100000);
            office.run(0);
            office.surrender(0);
            Check.equal("surrendered", ProfitsOffice.SURRENDERED, office.stateOf(0));
            Check.equal("without a share", 0, office.shareOf(0));
            Check.equal("nothing is guaranteed", 0, office.shortfall());
            Check.equal("nobody matures", 0, office.run(0));
        });
        DOCUMENT.test("`policy`: a policy", () -> {
            ProfitsOffice office = Offices.plain();
            Offices.beginThirty(office, 20, 1000, 0);
            office.run(0);
            Check.equal("the first", 620, office.surrender(0));
            Check.equal("the last", 620, office.surrender(29));
            Check.equal("the others are as they were", 28000, office.generation(0, 20));
        });
        DOCUMENT.test("Returns its worth.", () -> {
            ProfitsOffice office = Offices.plain();
            office.setScale(1000, 100, 0);
            office.begin(2, 1, 100000);
            office.begin(2, 1000, 0);
            office.run(-200);
            // 1001 - 201 (of 200.2) = 800, of which the first has 0 (of 0.8); the second has all of it then.
            int told = office.worth(0);
            Check.equal("nothing", 0, told);
            Check.equal("as worth tells it", told, office.surrender(0));
            Check.equal("800 thousandths of 800", 640, office.surrender(1));
        });
        DOCUMENT.test("Throws `IndexOutOfBoundsException` if there is no such policy",
                () -> noSuchPolicy((o, policy) -> o.surrender(policy)));
        DOCUMENT.test("Throws `IllegalStateException` if it is not in force, or has not been so for a year", () -> {
            notInForceForAYear((o, policy) -> o.surrender(policy));
            ProfitsOffice office = Offices.mixed();
            office.run(0);
            Check.equal("just for a year", 7, office.surrender(3));
            Check.refused("twice", STATE, CallsBoundaryTest::thirtySurrendered, o -> o.surrender(29));
        });
    }

    private static void promise4() {
        DOCUMENT.section("Promise 4: setRates");
        DOCUMENT.test("Sets the rate of yearly bonuses and the charge.", () -> {
            ProfitsOffice office = new ProfitsOffice();
            office.begin(20, 1000, 1000);
            office.setRates(0, 100);
            office.setRates(200, 0);
            office.run(0);
            Check.equal("the last that was set, at the most", 200, office.bonuses(0));
            Check.equal("the last that was set, at the least", 1000, office.generation(0, 20));
            office.setRates(0, 100);
            office.run(0);
            Check.equal("for what comes, at the least", 200, office.bonuses(0));
            Check.equal("for what comes, at the most", 1800, office.generation(0, 20));
        });
        DOCUMENT.test("`bonus`: 0 to 200 thousandths", () -> {
            ProfitsOffice office = new ProfitsOffice();
            office.setRates(0, 5);
            Check.equal("0 was set", 0, office.setRates(200, 5));
            Check.equal("200 was set", 200, office.setRates(0, 5));
            int[] bad = {LEAST_INT, -1, 201, GREATEST_INT};
            for (int bonus : bad) {
                outOfRange("setRates(" + bonus + ", 5)", o -> o.setRates(bonus, 5));
            }
        });
        DOCUMENT.test("`charge`: 0 to 100 thousandths", () -> {
            ProfitsOffice office = new ProfitsOffice();
            office.setRates(20, 0);
            office.begin(2, 1000, 0);
            office.run(0);
            Check.equal("0 was set", 1000, office.generation(0, 2));
            office.setRates(20, 100);
            office.begin(2, 1000, 0);
            office.run(0);
            Check.equal("100 was set", 900, office.generation(1, 2));
            int[] bad = {LEAST_INT, -1, 101, GREATEST_INT};
            for (int charge : bad) {
                outOfRange("setRates(20, " + charge + ")", o -> o.setRates(20, charge));
            }
        });
        DOCUMENT.test("Returns the bonus rate before.", () -> {
            ProfitsOffice office = new ProfitsOffice();
            Check.equal("at first", 20, office.setRates(200, 100));
            Check.equal("the greatest", 200, office.setRates(0, 0));
            Check.equal("the least", 0, office.setRates(7, 9));
            Check.equal("not the charge", 7, office.setRates(7, 9));
        });
        DOCUMENT.test("Throws `IllegalArgumentException` if bonus or charge is out of range", () -> {
            outOfRange("setRates(-1, -1)", o -> o.setRates(-1, -1));
            outOfRange("setRates(201, 101)", o -> o.setRates(201, 101));
            outOfRange("setRates(200, 101)", o -> o.setRates(200, 101));
            outOfRange("setRates(201, 100)", o -> o.setRates(201, 100));
        });
    }

    private static void promise5() {
        DOCUMENT.section("Promise 5: setScale");
        DOCUMENT.test("Sets the scale of targets, the step of smoothing and the floor of surrenders.", () -> {
            ProfitsOffice office = Offices.plain();
            office.setScale(1500, 0, 0);
            office.begin(2, 1000, 0);
            Offices.runYears(office, 2, 0);
            Check.equal("the scale", 3000, office.paid(0));
            office.setScale(500, 1000, 1000);
            office.begin(2, 1000, 0);
            office.run(0);
            Check.equal("the floor", 1000, office.worth(1));
            office.run(0);
            Check.equal("the step", 500, office.lastRatio(2));
            Check.equal("what was paid is as it was", 3000, office.paid(0));
        });
        DOCUMENT.test("`scale`: 500 to 1500 thousandths", () -> {
            ProfitsOffice office = new ProfitsOffice();
            office.setScale(500, 100, 500);
            Check.equal("500 was set", 500, office.setScale(1500, 100, 500));
            Check.equal("1500 was set", 1500, office.setScale(1000, 100, 500));
            int[] bad = {LEAST_INT, -1000, 0, 499, 1501, GREATEST_INT};
            for (int scale : bad) {
                outOfRange("setScale(" + scale + ", 100, 500)", o -> o.setScale(scale, 100, 500));
            }
        });
        DOCUMENT.test("`step`: 0 to 1000 thousandths", () -> {
            Check.equal("0", 1000, ratioWithStep(0));
            Check.equal("1", 1001, ratioWithStep(1));
            Check.equal("999", 1500, ratioWithStep(999));
            Check.equal("1000", 1500, ratioWithStep(1000));
            int[] bad = {LEAST_INT, -1, 1001, GREATEST_INT};
            for (int step : bad) {
                outOfRange("setScale(1000, " + step + ", 500)", o -> o.setScale(1000, step, 500));
            }
        });
        DOCUMENT.test("`floor`: 0 to 1000 thousandths", () -> {
            Check.equal("0", 620, worthWithFloor(0));
            Check.equal("999", 999, worthWithFloor(999));
            Check.equal("1000", 1000, worthWithFloor(1000));
            int[] bad = {LEAST_INT, -1, 1001, GREATEST_INT};
            for (int floor : bad) {
                outOfRange("setScale(1000, 100, " + floor + ")", o -> o.setScale(1000, 100, floor));
            }
        });
        DOCUMENT.test("Returns the scale before.", () -> {
            ProfitsOffice office = new ProfitsOffice();
            Check.equal("at first", 1000, office.setScale(500, 7, 8));
            Check.equal("the least", 500, office.setScale(1500, 0, 0));
            Check.equal("the greatest", 1500, office.setScale(1000, 1000, 1000));
        });
        DOCUMENT.test("Throws `IllegalArgumentException` if scale, step or floor is out of range", () -> {
            outOfRange("setScale(499, -1, -1)", o -> o.setScale(499, -1, -1));
            outOfRange("setScale(1501, 1001, 1001)", o -> o.setScale(1501, 1001, 1001));
            outOfRange("setScale(499, 1000, 1000)", o -> o.setScale(499, 1000, 1000));
            outOfRange("setScale(1500, 1001, 1000)", o -> o.setScale(1500, 1001, 1000));
            outOfRange("setScale(1500, 1000, 1001)", o -> o.setScale(1500, 1000, 1001));
        });
    }

    /** The ratio of 1500 after one of 1000. */
    private static int ratioWithStep(int step) {
        ProfitsOffice office = Offices.plain();
        office.begin(2, 1000, 0);
        Offices.runYears(office, 2, 0);
        office.setScale(1500, step, 500);
        office.begin(2, 1000, 0);
        Offices.runYears(office, 2, 0);
        return office.lastRatio(2);
    }

    private static int worthWithFloor(int floor) {
        ProfitsOffice office = Offices.plain();
        office.setScale(1000, 100, floor);
        office.begin(20, 1000, 0);
        office.run(0);
        return office.worth(0);
    }

    private static void promise6() {
        DOCUMENT.section("Promise 6: endow");
        DOCUMENT.test("Puts money into the estate, or takes some away", () -> {
            ProfitsOffice office = new ProfitsOffice();
            office.begin(2, 1000, 5);
            office.endow(7);
            Check.equal("into the estate", 7, office.estate());
            Check.equal("the assets become more", 7, office.assets());
            office.endow(-8);
            Check.equal("away from the estate", -1, office.estate());
            Check.equal("the assets become less", -1, office.assets());
            office.endow(0);
            Check.equal("nothing", -1, office.assets());
            Check.equal("shares are as they were", 0, office.generation(0, 2));
        });
        DOCUMENT.test("`amount`: -1000000 to 1000000", () -> {
            ProfitsOffice office = new ProfitsOffice();
            Check.equal("the least", -1000000, office.endow(-1000000));
            Check.equal("the greatest", 0, office.endow(1000000));
            Check.equal("none", 0, office.endow(0));
        });
        DOCUMENT.test("Returns the estate then.", () -> {
            ProfitsOffice office = new ProfitsOffice();
            long due = 0;
            for (int i = 0; i < 460; i++) {
                due -= 1000000;
                Check.equal("below 0", due, office.endow(-1000000));
            }
            for (int year = 0; year < 40; year++) {
                office.run(200);
                due += Math.floorDiv(due * 200, 1000L);
            }
            Check.equal("far below what an int holds", due - 1, office.endow(-1));
        });
        DOCUMENT.test("Throws `IllegalArgumentException` if amount is out of range", () -> {
            int[] bad = {LEAST_INT, -1000001, 1000001, GREATEST_INT};
            for (int amount : bad) {
                outOfRange("endow(" + amount + ")", o -> o.endow(amount));
            }
        });
    }

    private static void promise7() {
        DOCUMENT.section("Promise 7: run");
        DOCUMENT.test("Runs the year that goes on.", () -> {
            ProfitsOffice office = new ProfitsOffice();
            office.run(0);
            Check.equal("the first", 1, office.year());
            Offices.runTo(office, 39);
            office.begin(2, 10, 0);
            office.run(0);
            Check.equal("the last", 40, office.year());
            Check.equal("with its premium", 10, office.generation(39, 2));
        });
        DOCUMENT.test("`rate`: -200 to 200 thousandths", () -> {
            ProfitsOffice office = Offices.plain();
            office.endow(1000);
            office.begin(3, 1000, 0);
            office.run(-200);
            Check.equal("the least, of the estate", 800, office.estate());
            Check.equal("the least, of a share", 800, office.generation(0, 3));
            office.run(200);
            Check.equal("the greatest, of the estate", 960, office.estate());
            Check.equal("the greatest, of a share", 2160, office.generation(0, 3));
        });
        DOCUMENT.test("Returns how many policies mature.", () -> {
            ProfitsOffice none = new ProfitsOffice();
            Check.equal("of no policies", 0, none.run(0));
            ProfitsOffice all = new ProfitsOffice();
            Offices.beginThirty(all, 2, 1, 0);
            Check.equal("not yet", 0, all.run(0));
            Check.equal("all 30", 30, all.run(0));
            Check.equal("no more", 0, all.run(0));
            ProfitsOffice two = new ProfitsOffice();
            two.begin(3, 1, 0);
            two.run(0);
            two.begin(2, 1, 0);
            two.begin(3, 1, 0);
            two.begin(2, 1, 0);
            two.run(0);
            two.surrender(3);
            Check.equal("of two generations", 2, two.run(0));
            Check.equal("the last", 1, two.run(0));
        });
        DOCUMENT.test("Throws `IllegalArgumentException` if rate is out of range", () -> {
            int[] bad = {LEAST_INT, -1000, -201, 201, 1000, GREATEST_INT};
            for (int rate : bad) {
                outOfRange("run(" + rate + ")", o -> o.run(rate));
            }
        });
        DOCUMENT.test("Throws `IllegalStateException` if it is the year 40", () -> {
            ProfitsOffice office = new ProfitsOffice();
            Offices.runTo(office, 39);
            Check.equal("the year 39 runs", 0, office.run(0));
            int[] rates = {-200, 0, 200};
            for (int rate : rates) {
                Check.refused("run(" + rate + ")", STATE, Offices::inYear40, o -> o.run(rate));
                Check.refused("run(" + rate + ") with 30", STATE, Offices::fullInYear40, o -> o.run(rate));
            }
        });
    }

    private static void promise8And9() {
        DOCUMENT.section("Promise 8: year");
        DOCUMENT.test("Returns the year that goes on.", () -> {
            ProfitsOffice office = new ProfitsOffice();
            Check.equal("the first", 0, office.year());
            Offices.runYears(office, 39, 0);
            Check.equal("the last but one", 39, office.year());
            office.run(0);
            Check.equal("the last", 40, office.year());
        });
        DOCUMENT.section("Promise 9: policies");
        DOCUMENT.test("Returns how many policies there are.", () -> {
            ProfitsOffice office = new ProfitsOffice();
            Check.equal("none", 0, office.policies());
            for (int count = 1; count <= 30; count++) {
                office.begin(2, 1, 0);
                Check.equal("one more", count, office.policies());
            }
            Check.equal("in all states", 4, Offices.mixed().policies());
            Check.equal("30 surrendered", 30, thirtySurrendered().policies());
            Check.equal("30 matured", 30, thirtyMatured().policies());
        });
    }

    private static void promise10() {
        DOCUMENT.section("Promise 10: stateOf");
        DOCUMENT.test("Returns the state of a policy.", () -> {
            ProfitsOffice office = new ProfitsOffice();
            office.begin(2, 1, 0);
            office.begin(2, 1, 0);
            Check.equal("at once", ProfitsOffice.IN_FORCE, office.stateOf(0));
            office.run(0);
            Check.equal("a year ahead of its end", ProfitsOffice.IN_FORCE, office.stateOf(0));
            office.surrender(1);
            Check.equal("after its surrender", ProfitsOffice.SURRENDERED, office.stateOf(1));
            office.run(0);
            Check.equal("at its end", ProfitsOffice.MATURED, office.stateOf(0));
            Check.equal("surrendered for good", ProfitsOffice.SURRENDERED, office.stateOf(1));
        });
        DOCUMENT.test("`policy`: a policy", () -> {
            Check.equal("the first", ProfitsOffice.IN_FORCE, Offices.full().stateOf(0));
            Check.equal("the last", ProfitsOffice.IN_FORCE, Offices.full().stateOf(29));
        });
        DOCUMENT.test("Returns IN_FORCE, MATURED or SURRENDERED.", () -> {
            Check.equal("IN_FORCE", 0, Offices.mixed().stateOf(0));
            Check.equal("MATURED", 1, Offices.mixed().stateOf(2));
            Check.equal("SURRENDERED", 2, Offices.mixed().stateOf(1));
        });
        DOCUMENT.test("Throws `IndexOutOfBoundsException` if there is no such policy",
                () -> noSuchPolicy((o, policy) -> o.stateOf(policy)));
    }

    private static void promise11() {
        DOCUMENT.section("Promise 11: bonuses");
        DOCUMENT.test("Returns the bonuses of a policy, those that were given as long as it was in force.", () -> {
            ProfitsOffice office = new ProfitsOffice();
            office.setRates(100, 0);
            office.begin(2, 1, 1000);
            office.begin(3, 1, 1000);
            Check.equal("none yet", 0, office.bonuses(0));
            office.run(0);
            office.surrender(1);
            Check.equal("after a surrender", 100, office.bonuses(1));
            office.run(0);
            Check.equal("that of its last year too", 210, office.bonuses(0));
            office.run(0);
            Check.equal("none after a maturity", 210, office.bonuses(0));
            Check.equal("none after a surrender", 100, office.bonuses(1));
        });
        DOCUMENT.test("`policy`: a policy", () -> {
            ProfitsOffice office = new ProfitsOffice();
            for (int number = 0; number < 30; number++) {
                office.begin(2, 1, 50 * number);
            }
            office.run(0);
            Check.equal("the first", 0, office.bonuses(0));
            Check.equal("the last", 29, office.bonuses(29));
        });
        DOCUMENT.test("Returns the bonuses.", () -> {
            ProfitsOffice office = new ProfitsOffice();
            office.setRates(200, 0);
            office.begin(20, 1, 100000);
            long due = 0;
            for (int year = 0; year < 20; year++) {
                office.run(0);
                due += (100000 + due) * 200 / 1000;
            }
            Check.equal("the most, 20 years of 200", due, office.bonuses(0));
        });
        DOCUMENT.test("Throws `IndexOutOfBoundsException` if there is no such policy",
                () -> noSuchPolicy((o, policy) -> o.bonuses(policy)));
    }

    private static void promise12() {
        DOCUMENT.section("Promise 12: shareOf");
        DOCUMENT.test("Returns the asset share of a policy.", () -> {
            ProfitsOffice office = Offices.plain();
            office.begin(20, 1000, 0);
            long due = 0;
            for (int year = 0; year < 19; year++) {
                office.run(200);
                due += 1000;
                due += due * 200 / 1000;
            }
            Check.equal("the most, 19 years of 200", due, office.shareOf(0));
            Check.equal("all of its generation", due, office.generation(0, 20));
        });
        DOCUMENT.test("`policy`: a policy", () -> {
            ProfitsOffice office = Offices.plain();
            for (int number = 0; number < 30; number++) {
                office.begin(2, 1 + number, 0);
            }
            office.run(0);
            Check.equal("the first", 1, office.shareOf(0));
            Check.equal("the last", 30, office.shareOf(29));
        });
        DOCUMENT.test("Returns the share; 0 if it is not in force.", () -> {
            // Of 156, 104 are left: 204 + 8 (of 8.16) = 212, less 1 (of 1.484).
            Check.equal("in force", 211, Offices.mixed().shareOf(0));
            Check.equal("surrendered", 0, Offices.mixed().shareOf(1));
            Check.equal("matured", 0, Offices.mixed().shareOf(2));
            Check.equal("without a premium yet", 0, Offices.mixed().shareOf(3));
        });
        DOCUMENT.test("Throws `IndexOutOfBoundsException` if there is no such policy",
                () -> noSuchPolicy((o, policy) -> o.shareOf(policy)));
    }

    private static void promise13() {
        DOCUMENT.section("Promise 13: shareAlone");
        DOCUMENT.test("Returns the asset share that a policy would have if it were a generation by itself", () -> {
            ProfitsOffice office = new ProfitsOffice();
            office.setRates(0, 100);
            office.begin(20, 5, 0);
            office.begin(20, 5, 0);
            Check.equal("nothing yet", 0, office.shareAlone(0));
            office.run(100);
            // Together 10 + 1 = 11, less 1 (of 1.1). Alone 5 + 0 (of 0.5), less 0 (of 0.5).
            Check.equal("together", 5, office.shareOf(0));
            Check.equal("alone", 5, office.shareAlone(0));
            office.run(200);
            // Together 20 + 4 = 24, less 2 (of 2.4). Alone 10 + 2 = 12, less 1 (of 1.2).
            Check.equal("together, by other rates", 11, office.shareOf(0));
            Check.equal("alone, by other rates", 11, office.shareAlone(0));
            office.setRates(0, 0);
            office.run(-99);
            // Together 32 - 4 (of 3.168) = 28. Alone 16 - 2 (of 1.584) = 14.
            Check.equal("below 0, each rounded by itself", 28, office.generation(0, 20));
            Check.equal("below 0, alone", 14, office.shareAlone(1));
            ProfitsOffice thirty = Offices.plain();
            Offices.beginThirty(thirty, 2, 1, 0);
            thirty.run(-200);
            Check.equal("24 of 30 together", 24, thirty.generation(0, 2));
            Check.equal("none of 1 alone", 0, thirty.shareAlone(29));
            thirty.run(0);
            ProfitsOffice alone = new ProfitsOffice();
            alone.begin(7, 777, 0);
            Offices.runYears(alone, 5, 123);
            Check.equal("as its generation, if it is one", alone.generation(0, 7), alone.shareAlone(0));
        });
        DOCUMENT.test("`policy`: a policy", () -> {
            ProfitsOffice office = Offices.plain();
            for (int number = 0; number < 30; number++) {
                office.begin(2, 1 + number, 0);
            }
            office.run(0);
            Check.equal("the first", 1, office.shareAlone(0));
            Check.equal("the last", 30, office.shareAlone(29));
        });
        DOCUMENT.test("Returns the share; 0 if it is not in force.", () -> {
            // 105 less 0 (of 0.735); 205 + 8 (of 8.2) = 213, less 1 (of 1.491).
            Check.equal("in force", 212, Offices.mixed().shareAlone(0));
            Check.equal("surrendered", 0, Offices.mixed().shareAlone(1));
            Check.equal("matured", 0, Offices.mixed().shareAlone(2));
            Check.equal("without a premium yet", 0, Offices.mixed().shareAlone(3));
        });
        DOCUMENT.test("Throws `IndexOutOfBoundsException` if there is no such policy",
                () -> noSuchPolicy((o, policy) -> o.shareAlone(policy)));
    }

    private static void promise14() {
        DOCUMENT.section("Promise 14: generation");
        DOCUMENT.test("Returns the asset share of a generation.", () -> {
            ProfitsOffice office = Offices.plain();
            Offices.beginThirty(office, 20, 1000, 0);
            long due = 0;
            for (int year = 0; year < 19; year++) {
                office.run(200);
                due += 30000;
                due += due * 200 / 1000;
            }
            Check.equal("the most, 30 policies of 19 years", due, office.generation(0, 20));
        });
        DOCUMENT.test("`year`: the year in which it began, 0 to 40", () -> {
            ProfitsOffice office = Offices.plain();
            office.begin(20, 10, 0);
            office.run(0);
            Check.equal("the year 0", 10, office.generation(0, 20));
            Check.equal("not the year that goes on", 0, office.generation(1, 20));
            Check.equal("a year that has not come", 0, office.generation(40, 20));
            Check.equal("the year 40", 0, Offices.inYear40().generation(40, 2));
        });
        DOCUMENT.test("`term`: 2 to 20", () -> {
            ProfitsOffice office = Offices.plain();
            office.begin(2, 10, 0);
            office.begin(20, 20, 0);
            office.run(0);
            Check.equal("2", 10, office.generation(0, 2));
            Check.equal("3", 0, office.generation(0, 3));
            Check.equal("19", 0, office.generation(0, 19));
            Check.equal("20", 20, office.generation(0, 20));
        });
        DOCUMENT.test("Returns the share; 0 if there is no such generation.", () -> {
            Check.equal("none of a new office", 0, new ProfitsOffice().generation(0, 2));
            Check.equal("none of that term", 0, Offices.mixed().generation(0, 3));
            Check.equal("none of that year", 0, Offices.mixed().generation(1, 5));
            Check.equal("one that has nothing yet", 0, Offices.mixed().generation(2, 3));
            Check.equal("one that is closed", 0, Offices.mixed().generation(0, 2));
            Check.equal("closed by surrenders", 0, thirtySurrendered().generation(0, 20));
        });
        DOCUMENT.test("Throws `IllegalArgumentException` if year or term is out of range", () -> {
            int[] badYears = {LEAST_INT, -1, 41, GREATEST_INT};
            for (int year : badYears) {
                outOfRange("generation(" + year + ", 2)", o -> o.generation(year, 2));
                outOfRange("generation(" + year + ", 20)", o -> o.generation(year, 20));
            }
            int[] badTerms = {LEAST_INT, -1, 0, 1, 21, GREATEST_INT};
            for (int term : badTerms) {
                outOfRange("generation(0, " + term + ")", o -> o.generation(0, term));
                outOfRange("generation(40, " + term + ")", o -> o.generation(40, term));
            }
            outOfRange("generation(-1, 1)", o -> o.generation(-1, 1));
        });
    }

    private static void promise15() {
        DOCUMENT.section("Promise 15: paid");
        DOCUMENT.test("Returns what was paid out for a policy, or as its worth.", () -> {
            ProfitsOffice office = Offices.plain();
            office.begin(2, 1000, 0);
            office.begin(2, 1000, 0);
            office.run(0);
            Check.equal("a worth", office.surrender(1), office.paid(1));
            office.run(0);
            Check.equal("a payout", 2000, office.paid(0));
            office.run(200);
            Check.equal("as it was", 800, office.paid(1));
            ProfitsOffice most = new ProfitsOffice();
            most.setRates(200, 0);
            most.begin(20, 1, 100000);
            Offices.runYears(most, 20, 0);
            Check.equal("the most that can be guaranteed", 100000 + most.bonuses(0), most.paid(0));
        });
        DOCUMENT.test("`policy`: a policy", () -> {
            ProfitsOffice office = Offices.plain();
            for (int number = 0; number < 30; number++) {
                office.begin(2, 1, 100 + number);
            }
            Offices.runYears(office, 2, 0);
            Check.equal("the first", 100, office.paid(0));
            Check.equal("the last", 129, office.paid(29));
        });
        DOCUMENT.test("Returns the amount; NONE if it is in force.", () -> {
            ProfitsOffice office = Offices.plain();
            office.setScale(500, 100, 0);
            office.begin(2, 1, 0);
            office.begin(3, 1, 0);
            office.begin(4, 1, 0);
            Check.equal("at once", -1, office.paid(0));
            office.run(-200);
            Check.equal("after a year", -1, office.paid(1));
            office.surrender(1);
            Check.equal("a worth of 0 is an amount", 0, office.paid(1));
            office.run(-200);
            Check.equal("a payout of 0 is an amount", 0, office.paid(0));
            Check.equal("still in force", -1, office.paid(2));
        });
        DOCUMENT.test("Throws `IndexOutOfBoundsException` if there is no such policy",
                () -> noSuchPolicy((o, policy) -> o.paid(policy)));
    }

    private static void promise16() {
        DOCUMENT.section("Promise 16: worth");
        DOCUMENT.test("Returns what a policy would be worth, if it were surrendered now.", () -> {
            ProfitsOffice office = Offices.plain();
            office.begin(20, 1000, 0);
            office.run(0);
            Check.equal("now", 620, office.worth(0));
            office.setScale(1000, 100, 1000);
            Check.equal("by the floor as it is now", 1000, office.worth(0));
            Check.equal("it is not surrendered by that", ProfitsOffice.IN_FORCE, office.stateOf(0));
            Check.equal("nothing moves", 0, office.estate());
            Check.equal("it is what a surrender pays", 1000, office.surrender(0));
        });
        DOCUMENT.test("`policy`: a policy", () -> {
            ProfitsOffice office = Offices.plain();
            for (int number = 0; number < 30; number++) {
                office.begin(20, 100 + 10 * number, 0);
            }
            office.run(0);
            Check.equal("the first, 620 of 100", 62, office.worth(0));
            Check.equal("the last, 620 of 390", 241, office.worth(29));
        });
        DOCUMENT.test("Returns the worth.", () -> {
            ProfitsOffice office = Offices.plain();
            office.begin(20, 1000, 0);
            office.begin(2, 1, 0);
            Offices.runTo(office, 1);
            Check.equal("0 (of 0.8)", 0, office.worth(1));
            Offices.runTo(office, 19);
            Check.equal("in its last year", 18620, office.worth(0));
        });
        DOCUMENT.test("Throws `IndexOutOfBoundsException` if there is no such policy",
                () -> noSuchPolicy((o, policy) -> o.worth(policy)));
        DOCUMENT.test("Throws `IllegalStateException` if it is not in force, or has not been so for a year", () -> {
            notInForceForAYear((o, policy) -> o.worth(policy));
            ProfitsOffice office = Offices.mixed();
            office.run(0);
            Check.equal("just for a year", 7, office.worth(3));
        });
    }

    private static void promise17() {
        DOCUMENT.section("Promise 17: lastRatio");
        DOCUMENT.test("Returns the last ratio of a term.", () -> {
            ProfitsOffice office = Offices.plain();
            office.begin(2, 1000, 0);
            office.begin(20, 1000, 0);
            Offices.runTo(office, 20);
            Check.equal("of 2 years", 1000, office.lastRatio(2));
            Check.equal("of 20 years", 1000, office.lastRatio(20));
            Check.equal("of 3 years", ProfitsOffice.NONE, office.lastRatio(3));
            Check.equal("of 19 years", ProfitsOffice.NONE, office.lastRatio(19));
        });
        DOCUMENT.test("`term`: 2 to 20", () -> {
            ProfitsOffice office = new ProfitsOffice();
            Check.equal("2", ProfitsOffice.NONE, office.lastRatio(2));
            Check.equal("20", ProfitsOffice.NONE, office.lastRatio(20));
        });
        DOCUMENT.test("Returns the ratio, in thousandths; NONE if there is none.", () -> {
            ProfitsOffice office = Offices.plain();
            office.setScale(500, 100, 500);
            office.begin(2, 1, 0);
            office.run(-200);
            Check.equal("none yet", -1, office.lastRatio(2));
            office.run(-200);
            Check.equal("a ratio of 0 is one", 0, office.lastRatio(2));
            ProfitsOffice surrendered = thirtySurrendered();
            Check.equal("none by surrenders", -1, surrendered.lastRatio(20));
            ProfitsOffice most = Offices.plain();
            most.setScale(1500, 0, 0);
            most.begin(20, 1000, 0);
            long share = 0;
            for (int year = 0; year < 20; year++) {
                most.run(200);
                share += 1000;
                share += share * 200 / 1000;
            }
            Check.equal("the most, 20 years of 200", share * 1500 / 1000 * 1000 / 20000, most.lastRatio(20));
        });
        DOCUMENT.test("Throws `IllegalArgumentException` if term is out of range", () -> {
            int[] bad = {LEAST_INT, -1, 0, 1, 21, 22, GREATEST_INT};
            for (int term : bad) {
                outOfRange("lastRatio(" + term + ")", o -> o.lastRatio(term));
            }
        });
    }

    private static void promise18() {
        DOCUMENT.section("Promise 18: estate");
        DOCUMENT.test("Returns the estate; it can be below 0.", () -> {
            Check.equal("of a new office", 0, new ProfitsOffice().estate());
            ProfitsOffice below = new ProfitsOffice();
            below.endow(-1);
            Check.equal("-1", -1, below.estate());
            ProfitsOffice guaranteed = Offices.plain();
            Offices.beginThirty(guaranteed, 2, 1, 100000);
            Offices.runYears(guaranteed, 2, 0);
            Check.equal("30 sums of 100000 for 60", 60 - 3000000, guaranteed.estate());
            Check.equal("above what an int holds", estateOf(1000000), grown(1000000).estate());
            Check.equal("below what an int holds", estateOf(-1000000), grown(-1000000).estate());
        });
    }

    /** 460 endowments, and 40 years of 200. */
    private static ProfitsOffice grown(int endowment) {
        ProfitsOffice office = new ProfitsOffice();
        for (int i = 0; i < 460; i++) {
            office.endow(endowment);
        }
        Offices.runYears(office, 40, 200);
        return office;
    }

    private static long estateOf(int endowment) {
        long estate = 460L * endowment;
        for (int year = 0; year < 40; year++) {
            estate += Math.floorDiv(estate * 200, 1000L);
        }
        return estate;
    }

    private static void promise19() {
        DOCUMENT.section("Promise 19: sharesAndEstate");
        DOCUMENT.test("Returns the asset shares of all generations and the estate, together.", () -> {
            Check.equal("of a new office", 0, new ProfitsOffice().sharesAndEstate());
            ProfitsOffice estate = new ProfitsOffice();
            estate.endow(-7);
            Check.equal("no generation", -7, estate.sharesAndEstate());
            ProfitsOffice shares = Offices.plain();
            for (int number = 0; number < 30; number++) {
                shares.begin(6 + number % 15, 1000, 0);
                if (number == 14) {
                    shares.run(0);
                }
            }
            shares.run(0);
            Check.equal("30 generations, no estate", 45000, shares.sharesAndEstate());
            Check.equal("all closed, but for a new one", Offices.inYear40().estate(),
                    Offices.inYear40().sharesAndEstate());
            Check.equal("above what an int holds", estateOf(1000000), grown(1000000).sharesAndEstate());
            Check.equal("below what an int holds", estateOf(-1000000), grown(-1000000).sharesAndEstate());
        });
    }

    private static void promise20() {
        DOCUMENT.section("Promise 20: assets");
        DOCUMENT.test("Returns the assets, by all that came in and went out.", () -> {
            Check.equal("of a new office", 0, new ProfitsOffice().assets());
            ProfitsOffice office = new ProfitsOffice();
            office.endow(-999);
            Check.equal("below 0", -999, office.assets());
            office.begin(2, 1000, 5000);
            office.run(200);
            // -999 - 200 (of 199.8), and 1200.
            Check.equal("premiums and rates came in", -1199 + 1200, office.assets());
            office.run(0);
            Check.equal("a payout went out", 1 + 1000 - office.paid(0), office.assets());
            Check.equal("above what an int holds", estateOf(1000000), grown(1000000).assets());
            Check.equal("below what an int holds", estateOf(-1000000), grown(-1000000).assets());
        });
    }

    private static void promise21() {
        DOCUMENT.section("Promise 21: shortfall");
        DOCUMENT.test("Returns what is guaranteed to all policies in force, together, above their asset shares", () -> {
            Check.equal("no policies", 0, new ProfitsOffice().shortfall());
            ProfitsOffice office = Offices.plain();
            office.begin(2, 1000, 999);
            office.begin(3, 1000, 1000);
            office.begin(4, 1000, 1001);
            Check.equal("all of new ones", 3000, office.shortfall());
            office.run(0);
            Check.equal("1 below is none, 0 is none, 1 above is 1", 1, office.shortfall());
            office.surrender(2);
            Check.equal("none of a surrendered one", 0, office.shortfall());
            Check.equal("30 matured", 0, thirtyMatured().shortfall());
            Check.equal("30 surrendered", 0, thirtySurrendered().shortfall());
            ProfitsOffice inYear40 = Offices.plain();
            Offices.runTo(inYear40, 40);
            Offices.beginThirty(inYear40, 2, 1, 100000);
            Check.equal("30 of the year 40", 3000000, inYear40.shortfall());
            ProfitsOffice most = new ProfitsOffice();
            most.setRates(200, 0);
            Offices.beginThirty(most, 20, 1, 100000);
            long guaranteed = 100000;
            long shares = 0;
            for (int year = 0; year < 19; year++) {
                most.run(-200);
                guaranteed += guaranteed * 200 / 1000;
                shares += 30;
                shares += Math.floorDiv(shares * -200, 1000L);
            }
            Check.equal("the most, after 19 years", 30 * (guaranteed - shares / 30), most.shortfall());
        });
    }
}
