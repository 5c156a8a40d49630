import java.math.BigInteger;
import java.util.ArrayList;
import java.util.HashMap;
import java.util.List;
import java.util.Map;
import java.util.TreeMap;

/**
 * The document a second time, sentence by sentence, with whole numbers of any size. It throws in the
 * document's order, and answers a call by its name.
 */
final class Model {
    private static final BigInteger THOUSAND = BigInteger.valueOf(1000);

    private static final class Member {
        int begun;
        int term;
        int premium;
        BigInteger sum;
        BigInteger bonuses = BigInteger.ZERO;
        BigInteger alone = BigInteger.ZERO;
        BigInteger paid = BigInteger.ONE.negate();
        int state = 0;

        /** Rising years first, then rising terms. */
        int key() {
            return begun * 100 + term;
        }
    }

    private final List<Member> members = new ArrayList<>();
    private final TreeMap<Integer, BigInteger> shares = new TreeMap<>();
    private final Map<Integer, BigInteger> last = new HashMap<>();
    private BigInteger estate = BigInteger.ZERO;
    private BigInteger assets = BigInteger.ZERO;
    private int year = 0;
    private int bonusRate = 20;
    private int charge = 5;
    private int scale = 1000;
    private int step = 100;
    private int floor = 500;

    long call(String name, int a, int b, int c) {
        switch (name) {
            case "begin": return begin(a, b, c);
            case "surrender": return surrender(a);
            case "setRates": return setRates(a, b);
            case "setScale": return setScale(a, b, c);
            case "endow": return endow(a);
            case "run": return run(a);
            case "year": return year;
            case "policies": return members.size();
            case "stateOf": return member(a).state;
            case "bonuses": return member(a).bonuses.intValueExact();
            case "shareOf": return share(member(a)).intValueExact();
            case "shareAlone": return member(a).state == 0 ? member(a).alone.intValueExact() : 0;
            case "generation": return generation(a, b);
            case "paid": return member(a).paid.intValueExact();
            case "worth": return worth(a).intValueExact();
            case "lastRatio": return lastRatio(a);
            case "estate": return estate.longValueExact();
            case "sharesAndEstate": return sharesAndEstate();
            case "assets": return assets.longValueExact();
            case "shortfall": return shortfall();
            default: throw new AssertionError(name);
        }
    }

    private static void inRange(int value, int least, int most) {
        if (value < least || value > most) {
            throw new IllegalArgumentException();
        }
    }

    /** The amount times the numerator / the denominator, rounded down, below 0 too. */
    private static BigInteger down(BigInteger amount, BigInteger numerator, BigInteger denominator) {
        BigInteger[] parts = amount.multiply(numerator).divideAndRemainder(denominator);
        return parts[1].signum() < 0 ? parts[0].subtract(BigInteger.ONE) : parts[0];
    }

    private static BigInteger down(BigInteger amount, int thousandths) {
        return down(amount, BigInteger.valueOf(thousandths), THOUSAND);
    }

    private Member member(int number) {
        if (number < 0 || number >= members.size()) {
            throw new IndexOutOfBoundsException();
        }
        return members.get(number);
    }

    private BigInteger premiumsOf(int key) {
        long premiums = 0;
        for (Member m : members) {
            if (m.state == 0 && m.key() == key) {
                premiums += m.premium;
            }
        }
        return BigInteger.valueOf(premiums);
    }

    private BigInteger share(Member m) {
        if (m.state != 0) {
            return BigInteger.ZERO;
        }
        return down(shares.get(m.key()), BigInteger.valueOf(m.premium), premiumsOf(m.key()));
    }

    private int begin(int term, int premium, int sum) {
        inRange(term, 2, 20);
        inRange(premium, 1, 1000);
        inRange(sum, 0, 100000);
        if (members.size() == 30) {
            throw new IllegalStateException();
        }
        Member m = new Member();
        m.begun = year;
        m.term = term;
        m.premium = premium;
        m.sum = BigInteger.valueOf(sum);
        members.add(m);
        shares.putIfAbsent(m.key(), BigInteger.ZERO);
        return members.size() - 1;
    }

    private long surrender(int number) {
        BigInteger worth = worth(number);
        close(member(number), 2, worth);
        return worth.intValueExact();
    }

    private BigInteger worth(int number) {
        Member m = member(number);
        if (m.state != 0 || year == m.begun) {
            throw new IllegalStateException();
        }
        int years = year - m.begun;
        BigInteger worth = down(share(m), 600 + 400 * years / m.term);
        BigInteger least = down(BigInteger.valueOf((long) years * m.premium), floor);
        return worth.max(least).max(BigInteger.ZERO);
    }

    private void close(Member m, int state, BigInteger payment) {
        BigInteger share = share(m);
        shares.merge(m.key(), share.negate(), BigInteger::add);
        estate = estate.add(share).subtract(payment);
        assets = assets.subtract(payment);
        m.state = state;
        m.paid = payment;
        if (premiumsOf(m.key()).signum() == 0) {
            estate = estate.add(shares.get(m.key()));
            shares.put(m.key(), BigInteger.ZERO);
        }
    }

    private int setRates(int bonus, int newCharge) {
        inRange(bonus, 0, 200);
        inRange(newCharge, 0, 100);
        int before = bonusRate;
        bonusRate = bonus;
        charge = newCharge;
        return before;
    }

    private int setScale(int newScale, int newStep, int newFloor) {
        inRange(newScale, 500, 1500);
        inRange(newStep, 0, 1000);
        inRange(newFloor, 0, 1000);
        int before = scale;
        scale = newScale;
        step = newStep;
        floor = newFloor;
        return before;
    }

    private long endow(int amount) {
        inRange(amount, -1000000, 1000000);
        estate = estate.add(BigInteger.valueOf(amount));
        assets = assets.add(BigInteger.valueOf(amount));
        return estate.longValueExact();
    }

    private int run(int rate) {
        inRange(rate, -200, 200);
        if (year == 40) {
            throw new IllegalStateException();
        }
        BigInteger estateAhead = estate;
        for (int key : shares.keySet()) {
            BigInteger premiums = premiumsOf(key);
            if (premiums.signum() > 0) {
                BigInteger share = shares.get(key).add(premiums);
                BigInteger earned = down(share, rate);
                share = share.add(earned);
                BigInteger charged = share.signum() > 0 ? down(share, charge) : BigInteger.ZERO;
                shares.put(key, share.subtract(charged));
                estate = estate.add(charged);
                assets = assets.add(premiums).add(earned);
            }
        }
        BigInteger earnedByEstate = down(estateAhead, rate);
        estate = estate.add(earnedByEstate);
        assets = assets.add(earnedByEstate);
        for (Member m : members) {
            if (m.state == 0) {
                growAlone(m, rate);
                m.bonuses = m.bonuses.add(down(m.sum.add(m.bonuses), bonusRate));
            }
        }
        int matured = 0;
        Map<Integer, BigInteger> lastAhead = new HashMap<>(last);
        for (Member m : members) {
            if (m.state == 0 && year + 1 - m.begun == m.term) {
                mature(m, lastAhead.get(m.term));
                matured++;
            }
        }
        year++;
        return matured;
    }

    private void growAlone(Member m, int rate) {
        m.alone = m.alone.add(BigInteger.valueOf(m.premium));
        m.alone = m.alone.add(down(m.alone, rate));
        if (m.alone.signum() > 0) {
            m.alone = m.alone.subtract(down(m.alone, charge));
        }
    }

    private void mature(Member m, BigInteger before) {
        BigInteger premiums = BigInteger.valueOf((long) m.term * m.premium);
        BigInteger ratio = down(down(share(m), scale), THOUSAND, premiums);
        if (before != null) {
            BigInteger most = down(before, step);
            ratio = ratio.max(before.subtract(most)).min(before.add(most));
        }
        last.put(m.term, ratio);
        close(m, 1, down(premiums, ratio, THOUSAND).max(m.sum.add(m.bonuses)));
    }

    private long generation(int begun, int term) {
        inRange(begun, 0, 40);
        inRange(term, 2, 20);
        return shares.getOrDefault(begun * 100 + term, BigInteger.ZERO).intValueExact();
    }

    private long lastRatio(int term) {
        inRange(term, 2, 20);
        return last.containsKey(term) ? last.get(term).intValueExact() : -1;
    }

    private long sharesAndEstate() {
        BigInteger total = estate;
        for (BigInteger share : shares.values()) {
            total = total.add(share);
        }
        return total.longValueExact();
    }

    private long shortfall() {
        BigInteger total = BigInteger.ZERO;
        for (Member m : members) {
            if (m.state == 0) {
                total = total.add(m.sum.add(m.bonuses).subtract(share(m)).max(BigInteger.ZERO));
            }
        }
        return total.intValueExact();
    }
}
