/** Each promise of the document by itself, with answers that were worked out by hand. */
public final class PromiseTest {
    public static void main(String[] args) {
        promise1();
        promise2();
        promise3();
        promise4();
        promise5();
        promise5AtFirst();
        promise6();
        promise7();
        promise7BonusesAndOrder();
        promise7Smoothing();
        promise8();
        promise9();
        promise10();
        promise11();
        promise12And13();
        promise14();
        promise15();
        promise16();
        promise17();
        promise18To20();
        promise21();
        Check.end("PromiseTest");
    }

    private static void promise1() {
        Check.equal("NONE", -1, ProfitsOffice.NONE);
        Check.equal("IN_FORCE", 0, ProfitsOffice.IN_FORCE);
        Check.equal("MATURED", 1, ProfitsOffice.MATURED);
        Check.equal("SURRENDERED", 2, ProfitsOffice.SURRENDERED);
        ProfitsOffice office = new ProfitsOffice();
        Check.equal("1: year", 0, office.year());
        Check.equal("1: policies", 0, office.policies());
        Check.equal("1: estate", 0, office.estate());
        Check.equal("1: sharesAndEstate", 0, office.sharesAndEstate());
        Check.equal("1: assets", 0, office.assets());
        Check.equal("1: shortfall", 0, office.shortfall());
        for (int term = 2; term <= 20; term++) {
            Check.equal("1: lastRatio " + term, -1, office.lastRatio(term));
            for (int year = 0; year <= 40; year++) {
                Check.equal("1: generation " + year + " " + term, 0, office.generation(year, term));
            }
        }
        Check.equal("1: the bonus rate at first", 20, office.setRates(0, 0));
        Check.equal("1: the scale at first", 1000, office.setScale(500, 0, 0));
        ProfitsOffice other = new ProfitsOffice();
        Check.equal("1: offices are apart, bonus rate", 20, other.setRates(0, 0));
        Check.equal("1: offices are apart, scale", 1000, other.setScale(500, 0, 0));
    }

    private static void promise2() {
        ProfitsOffice office = new ProfitsOffice();
        Check.equal("2: the least of all", 0, office.begin(2, 1, 0));
        Check.equal("2: the most of all", 1, office.begin(20, 1000, 100000));
        Check.equal("2: no money moves yet", 0, office.assets());
        Check.equal("2: no share yet", 0, office.shareOf(1));
        Check.equal("2: guaranteed at once", 100000, office.shortfall());
        for (int number = 2; number < 30; number++) {
            Check.equal("2: numbers rise", number, office.begin(3, 1, 0));
        }
        Check.equal("2: thirty", 30, office.policies());
        ProfitsOffice last = Offices.inYear40();
        Check.equal("2: in the year 40 too", 5, last.begin(2, 1, 0));
    }

    private static void promise3() {
        ProfitsOffice office = new ProfitsOffice();
        office.setRates(0, 0);
        office.begin(7, 100, 0);
        office.begin(7, 33, 0);
        office.begin(7, 1, 90000);
        office.run(101);
        office.run(0);
        // 134 + 13 (of 13.53) = 147; 147 + 134 = 281. The shares are 209 (of 209.7), 69 (of 69.2) and
        // 2 (of 2.09). Two of seven years: 600 + 114 (of 114.28) = 714.
        Check.equal("3: generation", 281, office.generation(0, 7));
        // 209 times 714 / 1000 is 149 (of 149.2); the floor is 100.
        Check.equal("3: by its share", 149, office.surrender(0));
        Check.equal("3: state", ProfitsOffice.SURRENDERED, office.stateOf(0));
        Check.equal("3: paid", 149, office.paid(0));
        Check.equal("3: what the estate keeps", 60, office.estate());
        Check.equal("3: generation without it", 72, office.generation(0, 7));
        Check.equal("3: assets", 281 - 149, office.assets());
        // 72 is now shared by 34: 69 (of 69.88). 69 times 714 / 1000 is 49 (of 49.2); the floor is 33.
        Check.equal("3: share of the next", 69, office.shareOf(1));
        Check.equal("3: the next", 49, office.surrender(1));
        Check.equal("3: estate then", 60 + 20, office.estate());
        // The rest is of the last one, 3; 3 times 714 / 1000 is 2 (of 2.1); the sum plays no part.
        Check.equal("3: the last", 2, office.surrender(2));
        Check.equal("3: generation without any", 0, office.generation(0, 7));
        Check.equal("3: all is the estate's", 81, office.estate());
        Check.equal("3: all closed", 81, office.assets());
        Check.equal("3: no maturity later", 0, office.run(0) + office.run(0) + office.run(0)
                + office.run(0) + office.run(0) + office.run(0));
        Check.equal("3: no premiums later", 81, office.assets());

        ProfitsOffice floored = new ProfitsOffice();
        floored.setScale(1000, 100, 999);
        floored.begin(20, 7, 0);
        floored.run(-200);
        floored.run(-200);
        floored.run(-200);
        // 7 - 2 (of 1.4) = 5; 12 - 3 (of 2.4) = 9; 16 - 4 (of 3.2) = 12. Floor: 21 times 999 / 1000.
        Check.equal("3: share", 12, floored.shareOf(0));
        Check.equal("3: at least the floor", 20, floored.surrender(0));
        Check.equal("3: estate below 0", 12 - 20, floored.estate());

        ProfitsOffice none = new ProfitsOffice();
        none.setScale(1000, 100, 0);
        none.begin(20, 1, 0);
        none.run(-1);
        Check.equal("3: nothing is worth 0", 0, none.surrender(0));
        Check.equal("3: and 0 is paid", 0, none.paid(0));
    }

    private static void promise4() {
        ProfitsOffice office = new ProfitsOffice();
        Check.equal("4: at first", 20, office.setRates(200, 100));
        Check.equal("4: set to the most", 200, office.setRates(0, 0));
        Check.equal("4: set to the least", 0, office.setRates(33, 17));
        Check.equal("4: set between", 33, office.setRates(33, 17));
        office.begin(4, 1000, 1000);
        office.run(0);
        Check.equal("4: charge of 17", 983, office.generation(0, 4));
        Check.equal("4: charge to the estate", 17, office.estate());
        Check.equal("4: bonus of 33", 33, office.bonuses(0));
        office.setRates(0, 0);
        office.run(0);
        Check.equal("4: no charge", 1983, office.generation(0, 4));
        Check.equal("4: no bonus", 33, office.bonuses(0));
    }

    private static void promise5() {
        ProfitsOffice office = new ProfitsOffice();
        Check.equal("5: at first", 1000, office.setScale(1500, 1000, 1000));
        Check.equal("5: set to the most", 1500, office.setScale(500, 0, 0));
        Check.equal("5: set to the least", 500, office.setScale(1333, 50, 700));
        office.setRates(0, 0);
        office.begin(2, 100, 0);
        office.begin(3, 100, 0);
        office.run(-200);
        // The share is 80; after one of three years 600 + 133 of it are 58 (of 58.64).
        Check.equal("5: the floor of 700", 70, office.worth(1));
        Check.equal("5: set between", 1333, office.setScale(1333, 50, 0));
        Check.equal("5: no floor", 58, office.worth(1));
        office.run(0);
        // The target is 180 times 1333 / 1000 = 239 (of 239.94), and its ratio 1195.
        Check.equal("5: the ratio by the scale", 1195, office.lastRatio(2));
        Check.equal("5: payout by the scale", 239, office.paid(0));
    }

    /** The step, the floor and the charge at first, which no call tells. */
    private static void promise5AtFirst() {
        ProfitsOffice office = new ProfitsOffice();
        office.begin(20, 1000, 0);
        office.run(-200);
        // 800 less a charge of 4; after one of twenty years 620 thousandths of 796 are 493 (of 493.52).
        Check.equal("5: the charge at first", 796, office.generation(0, 20));
        Check.equal("5: the floor at first", 500, office.worth(0));
        office.setRates(0, 0);
        office.begin(2, 1000, 0);
        office.run(0);
        office.run(0);
        office.begin(2, 1000, 0);
        Check.equal("5: a ratio of 1000", 1000, office.lastRatio(2));
        office.run(200);
        office.run(200);
        Check.equal("5: the step at first", 1100, office.lastRatio(2));
    }

    private static void promise6() {
        ProfitsOffice office = new ProfitsOffice();
        Check.equal("6: the most", 1000000, office.endow(1000000));
        Check.equal("6: nothing", 1000000, office.endow(0));
        Check.equal("6: the least", 0, office.endow(-1000000));
        Check.equal("6: below 0", -7, office.endow(-7));
        Check.equal("6: estate", -7, office.estate());
        Check.equal("6: assets", -7, office.assets());
        Check.equal("6: sharesAndEstate", -7, office.sharesAndEstate());
        ProfitsOffice rich = new ProfitsOffice();
        for (int i = 0; i < 450; i++) {
            rich.endow(1000000);
        }
        rich.run(200);
        rich.run(200);
        rich.run(200);
        rich.run(200);
        rich.run(200);
        rich.run(200);
        rich.run(200);
        rich.run(200);
        rich.run(200);
        // 450000000 times 1.2 to the 9th, 5.159780352, which a whole number has to hold exactly.
        Check.equal("6: more than an int holds", 2321901158L, rich.estate());
    }

    private static void promise7() {
        ProfitsOffice office = new ProfitsOffice();
        office.setRates(20, 100);
        office.endow(-1001);
        office.begin(2, 100, 500);
        office.begin(2, 50, 0);
        Check.equal("7: none matures", 0, office.run(-33));
        // 150 - 5 (of 4.95) = 145, less a charge of 14 (of 14.5). The estate: -1001 + 33 (of 33.03) + 14.
        Check.equal("7: generation after a loss", 131, office.generation(0, 2));
        Check.equal("7: estate, -1001 and a loss", -954, office.estate());
        Check.equal("7: assets after a loss", 131 - 954, office.assets());
        Check.equal("7: both mature", 2, office.run(100));
        // 281 + 28 (of 28.1) = 309, less 30 (of 30.9) = 279. The estate: -954 - 96 (of 95.4) + 30 = -1020.
        // Policy 0: share 186, ratio 930, payout 186, but 500 + 10 + 10 (of 10.2) are guaranteed.
        // Policy 1: share 93, ratio 930, payout 93.
        Check.equal("7: guaranteed", 520, office.paid(0));
        Check.equal("7: by ratio", 93, office.paid(1));
        Check.equal("7: estate bears it", -1020 + 186 - 520 + 93 - 93, office.estate());
        Check.equal("7: assets", office.estate(), office.assets());
        Check.equal("7: generation closed", 0, office.generation(0, 2));
        Check.equal("7: year", 2, office.year());

        ProfitsOffice best = new ProfitsOffice();
        best.begin(2, 1000, 0);
        best.run(200);
        Check.equal("7: at the rate of 200", 1194, best.shareOf(0));
        best.run(-200);
        // 2194 - 439 (of 438.8) = 1755, less 8 (of 8.775); the ratio is 873 (of 873.5).
        Check.equal("7: at the rate of -200", 1746, best.paid(0));
    }

    private static void promise7BonusesAndOrder() {
        ProfitsOffice office = new ProfitsOffice();
        office.setRates(100, 100);
        office.begin(3, 1000, 155);
        office.begin(2, 1000, 1);
        office.begin(3, 500, 99);
        office.run(0);
        // 155: 15 (of 15.5). 99: 9 (of 9.9). 1: none.
        Check.equal("7: bonus", 15, office.bonuses(0));
        Check.equal("7: no bonus of so little", 0, office.bonuses(1));
        Check.equal("7: bonus of the third", 9, office.bonuses(2));
        // Charges of 100 and 150 came in; the estate earns nothing of them in that year.
        Check.equal("7: charges", 250, office.estate());
        office.surrender(2);
        long before = office.estate();
        Check.equal("7: one matures", 1, office.run(200));
        Check.equal("7: bonus upon bonus", 32, office.bonuses(0));
        Check.equal("7: none after a surrender", 9, office.bonuses(2));
        // Term 3: 1500 less 150 is 1350, of which 450 left. 900 + 1000 = 1900, 380 more, 228 off: 2052.
        Check.equal("7: premiums of those in force alone", 2052, office.generation(0, 3));
        // Term 2: 900 + 1000 = 1900, 380 more, 228 off: 2052; ratio 1026, all 2052 is paid.
        Check.equal("7: payout", 2052, office.paid(1));
        Check.equal("7: what the estate earned", before + before / 5 + 456, office.estate());
        Check.equal("7: the last one matures", 1, office.run(0));
        Check.equal("7: nothing goes on", 0, office.run(0));

        ProfitsOffice later = new ProfitsOffice();
        later.run(0);
        later.run(0);
        later.begin(2, 10, 0);
        Check.equal("7: begun later, not yet", 0, later.run(0));
        Check.equal("7: begun later, now", 1, later.run(0));
        Check.equal("7: matured", ProfitsOffice.MATURED, later.stateOf(0));
    }

    private static ProfitsOffice smoothed(int first, int second, int step) {
        ProfitsOffice office = new ProfitsOffice();
        office.setRates(0, 0);
        office.begin(2, 1000, 0);
        office.run(first);
        office.run(first);
        office.setScale(1000, step, 0);
        office.begin(2, 1000, 0);
        office.run(second);
        office.run(second);
        return office;
    }

    private static void promise7Smoothing() {
        // First -1 and -1: 999; 1999 - 2 = 1997; ratio 998. Then 200 and 200: 1200; 2640; ratio 1320.
        Check.equal("7: at first the ratio itself", 1996, smoothed(-1, 200, 0).paid(0));
        Check.equal("7: the most, by 0", 998, smoothed(-1, 200, 0).lastRatio(2));
        Check.equal("7: the most, by 99 (of 99.8)", 1097, smoothed(-1, 200, 100).lastRatio(2));
        Check.equal("7: paid by the smoothed ratio", 2194, smoothed(-1, 200, 100).paid(1));
        Check.equal("7: within", 1320, smoothed(-1, 200, 400).lastRatio(2));
        // Then -200 and -200: 800; 1440; ratio 720.
        Check.equal("7: the least, by 99 (of 99.8)", 899, smoothed(-1, -200, 100).lastRatio(2));
        Check.equal("7: the least paid", 1798, smoothed(-1, -200, 100).paid(1));
        Check.equal("7: within, below", 720, smoothed(-1, -200, 279).lastRatio(2));
        Check.equal("7: the least, by 277", 721, smoothed(-1, -200, 278).lastRatio(2));
        Check.equal("7: no least", 720, smoothed(-1, -200, 1000).lastRatio(2));
        // The 1 that the first one left (1997 - 1996) is lost at -200.
        Check.equal("7: the difference to the estate", 0 + 1440 - 1798, smoothed(-1, -200, 100).estate());

        // Two that mature together: the second one is not smoothed by the first one's ratio.
        ProfitsOffice office = new ProfitsOffice();
        office.setRates(0, 0);
        office.begin(2, 1000, 0);
        office.run(0);
        office.run(0);
        Check.equal("7: ratio of 1000", 1000, office.lastRatio(2));
        office.setScale(1500, 150, 0);
        office.begin(2, 3, 0);
        office.begin(2, 1, 0);
        office.run(-200);
        office.run(-200);
        // 4 - 1 = 3; 7 - 2 = 5. Policy 1: share 3 (of 3.75), target 4, ratio 666, at least 850.
        // Policy 2: share 2, target 3, ratio 1500, at most 1150 by the 1000 of the year's beginning.
        Check.equal("7: one after the other, paid", 5, office.paid(1));
        Check.equal("7: the last one leaves its own", 1150, office.lastRatio(2));
        Check.equal("7: the other paid", 2, office.paid(2));
        Check.equal("7: estate", 5 - 7, office.estate());

        // Two that mature together without a last ratio: both have their own.
        ProfitsOffice fresh = new ProfitsOffice();
        fresh.setRates(0, 0);
        fresh.setScale(1000, 0, 0);
        fresh.begin(2, 3, 0);
        fresh.begin(2, 1, 0);
        fresh.run(-200);
        fresh.run(-200);
        // Shares 3 and 2: ratios 500 and 1000.
        Check.equal("7: fresh, first", 3, fresh.paid(0));
        Check.equal("7: fresh, second", 2, fresh.paid(1));
        Check.equal("7: fresh, last ratio", 1000, fresh.lastRatio(2));
    }

    private static void promise8() {
        ProfitsOffice office = new ProfitsOffice();
        for (int year = 0; year < 40; year++) {
            Check.equal("8: year", year, office.year());
            office.begin(2 + year % 19, 1, 0);
            office.endow(1);
            Check.equal("8: only run moves it", year, office.year());
            office.run(0);
            if (office.policies() == 30) {
                break;
            }
        }
        Check.equal("8: thirty years", 30, office.year());
        Check.equal("8: the last year", 40, Offices.inYear40().year());
    }

    private static void promise9() {
        Check.equal("9: of all states", 4, Offices.mixed().policies());
        Check.equal("9: the most", 30, Offices.full().policies());
    }

    private static void promise10() {
        ProfitsOffice office = Offices.mixed();
        Check.equal("10: in force", ProfitsOffice.IN_FORCE, office.stateOf(0));
        Check.equal("10: surrendered", ProfitsOffice.SURRENDERED, office.stateOf(1));
        Check.equal("10: matured", ProfitsOffice.MATURED, office.stateOf(2));
        Check.equal("10: new", ProfitsOffice.IN_FORCE, office.stateOf(3));
    }

    private static void promise11() {
        ProfitsOffice office = Offices.mixed();
        // 1000 at 30 thousandths: 30, then 30 (of 30.9). 100: 3, then 3 (of 3.09).
        Check.equal("11: in force", 60, office.bonuses(0));
        Check.equal("11: of no sum", 0, office.bonuses(1));
        Check.equal("11: kept when matured", 6, office.bonuses(2));
        Check.equal("11: new", 0, office.bonuses(3));
        office.run(0);
        Check.equal("11: one more", 91, office.bonuses(0));
        Check.equal("11: none more", 6, office.bonuses(2));
        office.surrender(0);
        office.run(0);
        Check.equal("11: kept when surrendered", 91, office.bonuses(0));
    }

    private static void promise12And13() {
        ProfitsOffice office = new ProfitsOffice();
        office.setRates(0, 100);
        office.begin(3, 100, 0);
        office.begin(3, 50, 0);
        office.begin(4, 50, 0);
        office.run(-33);
        // Together 150 - 5 = 145, less 14 = 131: 87 (of 87.3) and 43 (of 43.7).
        Check.equal("12: rounded down", 87, office.shareOf(0));
        Check.equal("12: rounded down too", 43, office.shareOf(1));
        // By themselves 100 - 4 = 96, less 9 = 87; 50 - 2 = 48, less 4 = 44.
        Check.equal("13: alone", 87, office.shareAlone(0));
        Check.equal("13: alone too", 44, office.shareAlone(1));
        Check.equal("12: of another term", 44, office.shareOf(2));
        office.surrender(0);
        Check.equal("12: surrendered", 0, office.shareOf(0));
        Check.equal("13: surrendered", 0, office.shareAlone(0));
        Check.equal("12: the rest of the generation", 44, office.shareOf(1));
        Check.equal("13: not touched by it", 44, office.shareAlone(1));
        office.setRates(0, 0);
        office.run(33);
        // 94 + 3 (of 3.1) = 97, with the rates and charges of each year.
        Check.equal("13: each year by its own rates", 97, office.shareAlone(1));
        office.run(0);
        Check.equal("12: matured", 0, office.shareOf(1));
        Check.equal("13: matured", 0, office.shareAlone(1));
        Check.equal("12: another still in force", 147, office.shareOf(2));

        // The most that one can have, in one generation with 29 others.
        ProfitsOffice most = new ProfitsOffice();
        most.setRates(0, 0);
        for (int i = 0; i < 30; i++) {
            most.begin(20, 1000, 0);
        }
        for (int i = 0; i < 19; i++) {
            most.run(200);
        }
        // 1200 times (1.2 to the 19th less 1) / 0.2 is 185687.999..., times 30 with some rounding off.
        Check.isTrue("12: more than an int may hold on the way", most.shareOf(29) >= 185680
                && most.shareOf(29) <= 185688);
        Check.isTrue("12: and its generation", most.generation(0, 20) / 30 == most.shareOf(29));
    }

    private static void promise14() {
        ProfitsOffice office = new ProfitsOffice();
        office.setRates(0, 0);
        office.begin(2, 10, 0);
        office.begin(20, 20, 0);
        office.begin(2, 30, 0);
        Check.equal("14: before its first year", 0, office.generation(0, 2));
        office.run(0);
        office.begin(2, 5, 0);
        office.run(0);
        Check.equal("14: closed", 0, office.generation(0, 2));
        Check.equal("14: by term", 40, office.generation(0, 20));
        Check.equal("14: by year", 5, office.generation(1, 2));
        Check.equal("14: no such term", 0, office.generation(1, 20));
        Check.equal("14: no such year", 0, office.generation(40, 2));
    }

    private static void promise15() {
        ProfitsOffice office = Offices.mixed();
        Check.equal("15: in force", ProfitsOffice.NONE, office.paid(0));
        // 150 + 7 (of 7.5) = 157, less 1 (of 1.099) = 156, of which 52 are its own; 680 of it: 35.
        Check.equal("15: surrendered", 35, office.paid(1));
        // 200 + 10 = 210, less 1 = 209; 409 + 16 = 425, less 2 = 423; the target is 465, its ratio 1162.
        Check.equal("15: matured", 464, office.paid(2));
        Check.equal("15: new", ProfitsOffice.NONE, office.paid(3));
    }

    private static void promise16() {
        ProfitsOffice office = new ProfitsOffice();
        office.setRates(0, 0);
        office.begin(3, 100, 5000);
        office.run(0);
        // After one of three years 600 + 133 of 100, and the floor is 50.
        Check.equal("16: after a year", 73, office.worth(0));
        Check.equal("16: asking is no surrender", 73, office.worth(0));
        Check.equal("16: still in force", ProfitsOffice.IN_FORCE, office.stateOf(0));
        Check.equal("16: nothing moved", 100, office.generation(0, 3));
        office.run(0);
        Check.equal("16: after two", 173, office.worth(0));
        office.setScale(1000, 100, 1000);
        Check.equal("16: at the floor of 1000", 200, office.worth(0));
        Check.equal("16: as surrendered", 200, office.surrender(0));

        ProfitsOffice longer = new ProfitsOffice();
        longer.setRates(0, 0);
        longer.begin(7, 1000, 0);
        for (int years = 1; years < 7; years++) {
            longer.run(0);
        }
        // After six of seven years 600 + 342 (of 342.86).
        Check.equal("16: its part by its years, rounded down", 5652, longer.worth(0));
    }

    private static void promise17() {
        ProfitsOffice office = new ProfitsOffice();
        office.setRates(0, 0);
        office.begin(2, 10, 900);
        office.begin(3, 10, 0);
        office.begin(20, 10, 0);
        office.run(0);
        Check.equal("17: none yet", ProfitsOffice.NONE, office.lastRatio(2));
        office.run(0);
        // The payout is what is guaranteed; the ratio is as if it were not.
        Check.equal("17: paid as guaranteed", 900, office.paid(0));
        Check.equal("17: the ratio", 1000, office.lastRatio(2));
        Check.equal("17: of another term", ProfitsOffice.NONE, office.lastRatio(3));
        office.surrender(1);
        office.run(0);
        Check.equal("17: none by a surrender", ProfitsOffice.NONE, office.lastRatio(3));
        while (office.year() < 20) {
            office.run(0);
        }
        Check.equal("17: of the longest term", 1000, office.lastRatio(20));
    }

    private static void promise18To20() {
        ProfitsOffice office = new ProfitsOffice();
        office.setRates(0, 50);
        office.endow(999);
        office.begin(2, 1000, 0);
        office.begin(3, 500, 0);
        Check.equal("18: endowed", 999, office.estate());
        office.run(7);
        // The estate: 999 + 6 (of 6.993) + 50 (of 50.35) + 25 (of 25.15). The shares: 957 and 478.
        Check.equal("18: estate", 1080, office.estate());
        Check.equal("19: with the shares", 1080 + 957 + 478, office.sharesAndEstate());
        Check.equal("20: by what came in", 999 + 6 + 1500 + 7 + 3, office.assets());
        office.surrender(1);
        // After one of three years 600 + 133: 350 of 478.
        Check.equal("18: by a surrender", 1080 + 478 - 350, office.estate());
        Check.equal("19: by a surrender", 1080 + 957 + 478 - 350, office.sharesAndEstate());
        Check.equal("20: by a surrender", 2515 - 350, office.assets());
        office.endow(-1000000);
        Check.equal("18: below 0", 1208 - 1000000, office.estate());
        Check.equal("19: below 0", 957 + 1208 - 1000000, office.sharesAndEstate());
        Check.equal("20: below 0", 2165 - 1000000, office.assets());
    }

    private static void promise21() {
        ProfitsOffice office = new ProfitsOffice();
        office.setRates(100, 0);
        office.begin(3, 100, 150);
        office.begin(3, 100, 90);
        office.begin(2, 100, 101);
        Check.equal("21: of new ones", 341, office.shortfall());
        office.run(0);
        // Guaranteed 165, 99 and 111 (101 + 10); the shares are 100 each.
        Check.equal("21: each by itself", 65 + 11, office.shortfall());
        office.surrender(0);
        Check.equal("21: without a surrendered one", 11, office.shortfall());
        office.run(0);
        Check.equal("21: without a matured one", 0, office.shortfall());
        ProfitsOffice most = new ProfitsOffice();
        most.setRates(200, 0);
        for (int i = 0; i < 30; i++) {
            most.begin(20, 1, 100000);
        }
        most.run(-200);
        // 30 - 6 = 24 for all: none has a whole one.
        Check.equal("21: all together", 30 * 120000, most.shortfall());
    }
}
