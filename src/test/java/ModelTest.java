import java.util.Random;

/** Long runs of calls of many kinds, from fixed seeds, each answer compared with that of the Model. */
public final class ModelTest {
    private static final int RUNS = 3000;
    private static final int CALLS = 512;
    private static final String[] CHANGES = {"begin", "surrender", "setRates", "setScale", "endow", "run"};
    private static final String[] QUESTIONS = {"year", "policies", "stateOf", "bonuses", "shareOf", "shareAlone",
        "generation", "paid", "worth", "lastRatio", "estate", "sharesAndEstate", "assets", "shortfall"};
    private static final int[] WILD = {-1, 0, 1, 2, 20, 21, 29, 30, 31, 40, 41, 100, 101, 200, 201, -200, -201, 499,
        500, 1000, 1001, 1500, 1501, 100000, 100001, 1000000, 1000001, -1000000, -1000001, Integer.MIN_VALUE,
        Integer.MAX_VALUE};

    private final Random random;
    private final ProfitsOffice office = new ProfitsOffice();
    private final Model model = new Model();
    /** How a run goes: few terms make large generations; a pace makes more or fewer years. */
    private final int terms;
    private final int pace;
    private final int mostPremium;
    private final int mostSum;

    private ModelTest(long seed) {
        random = new Random(seed);
        terms = 1 + random.nextInt(random.nextBoolean() ? 3 : 19);
        pace = 1 + random.nextInt(12);
        mostPremium = random.nextBoolean() ? 1000 : 1 + random.nextInt(20);
        mostSum = random.nextInt(3) == 0 ? 100000 : random.nextInt(4000);
    }

    public static void main(String[] args) {
        for (long seed = 1; seed <= RUNS && Check.wrongSoFar() == 0; seed++) {
            new ModelTest(seed).go(seed);
        }
        Check.end("ModelTest");
    }

    private void go(long seed) {
        for (int call = 0; call < CALLS; call++) {
            String name = random.nextInt(5) < 2 ? change() : QUESTIONS[random.nextInt(QUESTIONS.length)];
            boolean wild = random.nextInt(15) == 0;
            int a = argument(name, 0, wild);
            int b = argument(name, 1, wild);
            int c = argument(name, 2, wild);
            String due = answer(true, name, a, b, c);
            String got = answer(false, name, a, b, c);
            if (!due.equals(got)) {
                Check.fail("seed " + seed + ", call " + call + ": " + name + "(" + a + ", " + b + ", " + c
                        + "): due is " + due + ", answered was " + got);
                return;
            }
        }
    }

    private String change() {
        return random.nextInt(pace) == 0 ? "run" : CHANGES[random.nextInt(CHANGES.length)];
    }

    private int argument(String name, int place, boolean wild) {
        if (wild && random.nextBoolean()) {
            return WILD[random.nextInt(WILD.length)];
        }
        switch (name) {
            case "begin":
                return place == 0 ? term() : place == 1 ? 1 + random.nextInt(mostPremium) : random.nextInt(mostSum + 1);
            case "setRates":
                return random.nextInt(place == 0 ? 201 : 101);
            case "setScale":
                return place == 0 ? 500 + random.nextInt(1001) : random.nextInt(1001);
            case "endow":
                return random.nextBoolean() ? random.nextInt(2001) - 1000 : random.nextInt(2000001) - 1000000;
            case "run":
                return random.nextInt(401) - 200;
            case "generation":
                return place == 0 ? random.nextInt(41) : term();
            case "lastRatio":
                return term();
            default:
                return random.nextInt(31);
        }
    }

    private int term() {
        return 2 + random.nextInt(terms);
    }

    private String answer(boolean byModel, String name, int a, int b, int c) {
        try {
            return Long.toString(byModel ? model.call(name, a, b, c) : call(name, a, b, c));
        } catch (IllegalArgumentException | IllegalStateException | IndexOutOfBoundsException thrown) {
            return thrown.getClass().getName();
        }
    }

    private long call(String name, int a, int b, int c) {
        switch (name) {
            case "begin": return office.begin(a, b, c);
            case "surrender": return office.surrender(a);
            case "setRates": return office.setRates(a, b);
            case "setScale": return office.setScale(a, b, c);
            case "endow": return office.endow(a);
            case "run": return office.run(a);
            case "year": return office.year();
            case "policies": return office.policies();
            case "stateOf": return office.stateOf(a);
            case "bonuses": return office.bonuses(a);
            case "shareOf": return office.shareOf(a);
            case "shareAlone": return office.shareAlone(a);
            case "generation": return office.generation(a, b);
            case "paid": return office.paid(a);
            case "worth": return office.worth(a);
            case "lastRatio": return office.lastRatio(a);
            case "estate": return office.estate();
            case "sharesAndEstate": return office.sharesAndEstate();
            case "assets": return office.assets();
            case "shortfall": return office.shortfall();
            default: throw new AssertionError(name);
        }
    }
}
