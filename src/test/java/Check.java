import java.util.function.Consumer;
import java.util.function.Supplier;

/** What the tests share: comparing answers, comparing whole offices, and expecting exceptions. */
final class Check {
    private static int wrong = 0;
    private static int checks = 0;
    private static String where = "";

    private Check() {
    }

    /** Said ahead of all that is found wrong from now on. */
    static void within(String test) {
        where = test;
    }

    static void equal(String what, long due, long got) {
        checks++;
        if (due != got) {
            fail(what + ": due is " + due + ", answered was " + got);
        }
    }

    static void isTrue(String what, boolean holds) {
        checks++;
        if (!holds) {
            fail(what);
        }
    }

    static void fail(String what) {
        wrong++;
        if (wrong <= 50) {
            System.out.println(where + what);
        }
    }

    static int madeSoFar() {
        return checks;
    }

    static int wrongSoFar() {
        return wrong;
    }

    static void end(String test) {
        System.out.println(test + ": " + (wrong == 0 ? "all holds" : wrong + " do not hold"));
        System.exit(wrong == 0 ? 0 : 1);
    }

    /** Expects just this exception, and that the office goes on as one that never had the call. */
    static void refused(String what, Class<? extends RuntimeException> due,
            Supplier<ProfitsOffice> made, Consumer<ProfitsOffice> call) {
        ProfitsOffice tried = made.get();
        ProfitsOffice spared = made.get();
        try {
            call.accept(tried);
            fail(what + ": due is " + due.getSimpleName() + ", nothing was thrown");
        } catch (RuntimeException thrown) {
            isTrue(what + ": due is " + due.getSimpleName() + ", thrown was " + thrown,
                    thrown.getClass() == due);
        }
        isTrue(what + " changed something", view(spared).equals(view(tried)));
        goOn(spared);
        goOn(tried);
        isTrue(what + " changed what comes later", view(spared).equals(view(tried)));
        equal(what + " changed the bonus rate", spared.setRates(20, 5), tried.setRates(20, 5));
        equal(what + " changed the scale", spared.setScale(1000, 100, 500), tried.setScale(1000, 100, 500));
    }

    private static void goOn(ProfitsOffice office) {
        int[] rates = {150, -120, 33};
        for (int rate : rates) {
            if (office.policies() < 30) {
                office.begin(2, 777, 150);
            }
            if (office.year() < 40) {
                office.run(rate);
            }
        }
        for (int policy = 0; policy < office.policies(); policy++) {
            try {
                office.surrender(policy);
                return;
            } catch (IllegalStateException notNow) {
                continue;
            }
        }
    }

    /** All that the office tells of itself without a change. */
    static String view(ProfitsOffice office) {
        StringBuilder text = new StringBuilder();
        text.append("year ").append(office.year()).append(" policies ").append(office.policies());
        text.append(" estate ").append(office.estate()).append(" assets ").append(office.assets());
        text.append(" sharesAndEstate ").append(office.sharesAndEstate());
        text.append(" shortfall ").append(office.shortfall());
        for (int policy = 0; policy < office.policies(); policy++) {
            text.append("\npolicy ").append(policy).append(' ').append(office.stateOf(policy));
            text.append(' ').append(office.bonuses(policy)).append(' ').append(office.shareOf(policy));
            text.append(' ').append(office.shareAlone(policy)).append(' ').append(office.paid(policy));
            text.append(' ').append(worthOrNot(office, policy));
        }
        for (int term = 2; term <= 20; term++) {
            text.append("\nterm ").append(term).append(' ').append(office.lastRatio(term));
            for (int year = 0; year <= 40; year++) {
                text.append(' ').append(office.generation(year, term));
            }
        }
        return text.toString();
    }

    private static String worthOrNot(ProfitsOffice office, int policy) {
        try {
            return Integer.toString(office.worth(policy));
        } catch (IllegalStateException none) {
            return "none";
        }
    }
}
