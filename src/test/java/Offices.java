/** Offices that several tests begin with. */
final class Offices {
    private Offices() {
    }

    /** Neither bonuses nor charges. */
    static ProfitsOffice plain() {
        ProfitsOffice office = new ProfitsOffice();
        office.setRates(0, 0);
        return office;
    }

    /** Year 2; policy 0 has run for 2 of 5 years, 1 is surrendered, 2 has matured, 3 is new. */
    static ProfitsOffice mixed() {
        ProfitsOffice office = new ProfitsOffice();
        office.setRates(30, 7);
        office.setScale(1100, 120, 300);
        office.endow(5000);
        office.begin(5, 100, 1000);
        office.begin(5, 50, 0);
        office.begin(2, 200, 100);
        office.run(50);
        office.surrender(1);
        office.run(40);
        office.begin(3, 10, 10);
        return office;
    }

    /** As mixed, with 30 policies. */
    static ProfitsOffice full() {
        ProfitsOffice office = mixed();
        while (office.policies() < 30) {
            office.begin(4, 10, 10);
        }
        return office;
    }

    /** As mixed, with all of its policies closed and a new one, number 4. */
    static ProfitsOffice inYear40() {
        ProfitsOffice office = mixed();
        while (office.year() < 40) {
            office.run(3);
        }
        office.begin(2, 10, 10);
        return office;
    }

    /** Both at once: 30 policies, and no year to run any more. */
    static ProfitsOffice fullInYear40() {
        ProfitsOffice office = inYear40();
        while (office.policies() < 30) {
            office.begin(20, 1, 1);
        }
        return office;
    }

    /** 30 of one generation, begun now. */
    static void beginThirty(ProfitsOffice office, int term, int premium, int sum) {
        for (int i = 0; i < 30; i++) {
            office.begin(term, premium, sum);
        }
    }

    static void runYears(ProfitsOffice office, int years, int rate) {
        for (int i = 0; i < years; i++) {
            office.run(rate);
        }
    }

    static void runTo(ProfitsOffice office, int year) {
        while (office.year() < year) {
            office.run(0);
        }
    }
}
