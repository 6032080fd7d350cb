import java.math.BigInteger;

/** Promises 21 to 24: shares of rules, rules lost by chance, marks by a seed. */
final class EdgesOfChances extends Edges {
    // ---- promise 21: share

    private static void share(int above, int below, Used used, int rule) {
        due(above, used.share(rule, true));
        due(below, used.share(rule, false));
    }

    @Says("UNKNOWN -1 (there is no such NUMBER, RULE, CUT, SLOT)")
    static void promise21_noSuchRule() {
        for (boolean upper : new boolean[] {true, false}) {
            refuses(UNKNOWN, Edges::fresh, used -> used.share(0, upper));
            refuses(UNKNOWN, Edges::busy, used -> used.share(-1, upper));
            refuses(UNKNOWN, Edges::busy, used -> used.share(2, upper));
            refuses(UNKNOWN, Edges::busy, used -> used.share(LEAST_INT, upper));
            refuses(UNKNOWN, Edges::busy, used -> used.share(MOST_INT, upper));
        }
        Used six = new Used().tells("L19" + "r1+08".repeat(6));
        share(1, 6, six, 5);
        due(UNKNOWN, six.share(6, true));
    }

    @Says("FRACTIONS are told above (upper = true; less than 0, if they are), below, in least terms.")
    static void promise21_nothingIsRuledOut() {
        share(0, 1, new Used().tells("L19r1+09"), 0);
        share(0, 1, new Used().tells("L19" + "r1+09".repeat(6)), 3);
        share(0, 1, new Used().tells("L10r3+30"), 0);
    }

    @Says("by how many fewer WAYS there are in the mean when it has come: a FRACTION")
    static void promise21_allIsRuledOut() {
        share(10000, 1, new Used().tells("L49999r0000-01"), 0);
        Used six = new Used().tells("L49999" + "r0000-01".repeat(6));
        share(5000, 3, six, 0);
        share(5000, 3, six, 5);
        share(1, 1, new Used().tells("L10r0-01"), 0);
    }

    @Says("if RULES come one by one, in each order as likely")
    static void promise21_eachOrderIsAsLikely() {
        // Of 10 values rule 0 rules out 5 .. 9, rule 1 7 .. 9, rule 2 0 and 1.
        Used used = new Used().tells("L19r1+04r1+06ra-02");
        share(7, 2, used, 0);
        share(3, 2, used, 1);
        share(2, 1, used, 2);
        // A third of 9 is shared by three, a half of 8 by two: each value by those that rule it out.
        Used three = new Used().tells("L19r1+06r1+07r1+08");
        share(1 * 6 + 1 * 3 + 2, 6, three, 0);
        share(1 * 3 + 2, 6, three, 1);
        share(1, 3, three, 2);
    }

    @Says("if RULES come one by one, in each order as likely")
    static void promise21_oneToSixRules() {
        // Rule 0 rules out one value more than rule 1 does, and so on: each has its part of each.
        share(1, 1, new Used().tells("L19r1+08"), 0);
        share(3, 2, new Used().tells("L19r1+07r1+08"), 0);
        share(11, 6, new Used().tells("L19r1+06r1+07r1+08"), 0);
        share(25, 12, new Used().tells("L19r1+05r1+06r1+07r1+08"), 0);
        share(137, 60, new Used().tells("L19r1+04r1+05r1+06r1+07r1+08"), 0);
        Used six = new Used().tells("L19r1+03r1+04r1+05r1+06r1+07r1+08");
        share(49, 20, six, 0);
        share(29, 20, six, 1);
        share(19, 20, six, 2);
        share(37, 60, six, 3);
        share(11, 30, six, 4);
        share(1, 6, six, 5);
    }

    @Says("if RULES come one by one, in each order as likely")
    static void promise21_ofAnyWeightsAndTops() {
        for (String text : MIXED) {
            ByHand task = new ByHand(text);
            Used used = new Used().tells(text);
            for (int rule = 0; rule < task.rules(); rule++) {
                fraction(task.fewerInAllOrders(rule), ByHand.orders(task.rules()),
                    used.share(rule, true), used.share(rule, false));
            }
        }
    }

    private static void fraction(long above, long below, long toldAbove, long toldBelow) {
        due(above * toldBelow, below * toldAbove);
        due(1, BigInteger.valueOf(toldAbove).gcd(BigInteger.valueOf(toldBelow)).longValue());
    }

    @Says("if RULES come one by one, in each order as likely")
    static void promise21_theTaskThatIsToldNow() {
        Used used = new Used().tells("L19r1+04");
        share(5, 1, used, 0);
        used.tells("L19r1+04r1+04");
        share(5, 2, used, 1);
        used.tells("L15r1+04");
        share(1, 1, used, 0);
        due(UNKNOWN, used.share(1, true));
    }

    @Says("SHARE of a RULE")
    static void promise21_theTrailIsSetAsideAndStays() {
        Used used = new Used().tells(SUM);
        used.make(0, 0, 5);
        share(79, 1, used, 0);
        leavesAll(Edges::busy, asked -> asked.share(1, true));
        leavesAll(Edges::broken, asked -> asked.share(0, false));
    }

    // ---- promise 22: chance

    private static void chance(int above, int below, Used used, int v, int x) {
        due(above, used.chance(v, x, true));
        due(below, used.chance(v, x, false));
    }

    @Says("that there are v (0 .. 9999) WAYS or more")
    static void promise22_vIs0To9999() {
        for (boolean upper : new boolean[] {true, false}) {
            refuses(BAD, Edges::fresh, used -> used.chance(-1, 5, upper));
            refuses(BAD, Edges::fresh, used -> used.chance(10000, 5, upper));
            refuses(BAD, Edges::busy, used -> used.chance(LEAST_INT, 5, upper));
            refuses(BAD, Edges::busy, used -> used.chance(MOST_INT, 5, upper));
        }
        chance(1, 1, new Used(), 0, 5);
        chance(0, 1, new Used(), 9999, 5);
        chance(1, 1, new Used().tells("L49999"), 9999, 5);
    }

    @Says("each RULE is lost by x tenths (0 .. 10), by itself")
    static void promise22_xIs0To10() {
        for (boolean upper : new boolean[] {true, false}) {
            refuses(BAD, Edges::fresh, used -> used.chance(5, -1, upper));
            refuses(BAD, Edges::fresh, used -> used.chance(5, 11, upper));
            refuses(BAD, Edges::busy, used -> used.chance(5, LEAST_INT, upper));
            refuses(BAD, Edges::busy, used -> used.chance(5, MOST_INT, upper));
            refuses(BAD, Edges::busy, used -> used.chance(-1, 11, upper));
        }
        Used used = new Used().tells("L19r0-01");
        chance(0, 1, used, 1, 0);
        chance(1, 10, used, 1, 1);
        chance(1, 2, used, 1, 5);
        chance(9, 10, used, 1, 9);
        chance(1, 1, used, 1, 10);
    }

    @Says("that there are v (0 .. 9999) WAYS or more: a FRACTION")
    static void promise22_justSoManyWaysAndOneMore() {
        // By both rules 3 ways, by the first alone 5, by the second alone 8, by none 10.
        Used used = new Used().tells("L19r1+04ra-02");
        chance(1, 1, used, 3, 3);
        chance(51, 100, used, 4, 3);
        chance(51, 100, used, 5, 3);
        chance(3, 10, used, 6, 3);
        chance(3, 10, used, 8, 3);
        chance(9, 100, used, 9, 3);
        chance(9, 100, used, 10, 3);
        chance(0, 1, used, 11, 3);
        Used most = new Used().tells("L49999raaaa-01");
        chance(1, 1, most, 9999, 0);
        Used fewer = new Used().tells("L49999raaa0-01");
        chance(1, 1, fewer, 9990, 0);
        chance(0, 1, fewer, 9991, 0);
        chance(2, 5, fewer, 9991, 4);
    }

    @Says("CHANCE: each RULE is lost by x tenths (0 .. 10), by itself")
    static void promise22_ofAnyWeightsAndTops() {
        for (String text : MIXED) {
            ByHand task = new ByHand(text);
            Used used = new Used().tells(text);
            long below = Math.round(Math.pow(10, task.rules()));
            for (int lost = 0; lost < 1 << task.rules(); lost++) {
                int ways = task.ways(lost);
                int x = lost % 11;
                fraction(task.likely(ways, x), below, used.chance(ways, x, true), used.chance(ways, x, false));
                fraction(task.likely(ways + 1, 3), below, used.chance(ways + 1, 3, true), used.chance(ways + 1, 3, false));
            }
        }
    }

    @Says("that there are v (0 .. 9999) WAYS or more: a FRACTION")
    static void promise22_noWaysOrMoreIsSure() {
        chance(1, 1, new Used().tells(NO_WAY), 0, 0);
        chance(1, 1, new Used().tells(NO_WAY), 0, 5);
        chance(1, 1, new Used().tells(NO_WAY), 0, 10);
        chance(0, 1, new Used().tells(NO_WAY), 1, 0);
    }

    @Says("FRACTIONS are told above (upper = true; less than 0, if they are), below, in least terms.")
    static void promise22_sixRulesInLeastTerms() {
        Used used = new Used().tells("L19" + "r1+00".repeat(6));
        chance(1, 1000000, used, 2, 1);
        chance(1, 15625, used, 2, 2);
        chance(1, 64, used, 2, 5);
        chance(531441, 1000000, used, 2, 9);
        chance(1, 1, used, 2, 10);
        chance(0, 1, used, 2, 0);
        chance(1, 1, used, 1, 7);
    }

    @Says("WAYS of no RULES are all values.")
    static void promise22_withoutRules() {
        chance(1, 1, new Used(), 10, 5);
        chance(0, 1, new Used(), 11, 5);
        chance(1, 1, new Used().tells("L10"), 1, 0);
        chance(0, 1, new Used().tells("L10"), 2, 10);
    }

    @Says("CHANCE: each RULE is lost by x tenths (0 .. 10), by itself")
    static void promise22_theTrailIsSetAsideAndStays() {
        Used used = new Used().tells(SUM);
        used.make(0, 0, 5);
        chance(1, 1, used, 21, 0);
        chance(0, 1, used, 22, 0);
        used.tells("L19r1+04");
        chance(1, 1, used, 5, 0);
        chance(0, 1, used, 6, 0);
        leavesAll(Edges::busy, asked -> asked.chance(2, 3, true));
        leavesAll(Edges::hopeless, asked -> asked.chance(9999, 10, false));
    }

    // ---- promise 23: seed

    @Says("THE SEED is v: what it was.")
    static void promise23_theEndsOfLong() {
        Used used = new Used();
        due(0, used.seed(Long.MAX_VALUE));
        due(Long.MAX_VALUE, used.seed(Long.MIN_VALUE));
        due(Long.MIN_VALUE, used.seed(-1));
        due(-1, used.seed(1L << 40));
        due(1L << 40, used.seed(0));
        due(0, used.seed(0));
    }

    @Says("THE TEXT, SEEN, THE SEED, RULES, TOPS are not undone or kept")
    static void promise23_itIsNeitherUndoneNorKeptNorToldAnew() {
        Used used = new Used().tells(SUM);
        used.seed(1);
        used.keep(0);
        used.make(0, 0, 1);
        used.seed(2);
        used.undo();
        due(2, used.seed(3));
        used.again(0);
        due(3, used.seed(4));
        used.task();
        due(4, used.seed(5));
    }

    // ---- promise 24: drawn

    private static final BigInteger TIMES = new BigInteger("6364136223846793005");
    private static final BigInteger AND = new BigInteger("1442695040888963407");

    // In whole numbers without an end, so that what wraps is seen.
    private static long next(long x) {
        return BigInteger.valueOf(x).multiply(TIMES).add(AND).longValue();
    }

    private static int upper31(long x) {
        BigInteger whole = BigInteger.valueOf(x);
        BigInteger unsigned = x < 0 ? whole.add(BigInteger.ONE.shiftLeft(64)) : whole;
        return unsigned.shiftRight(33).intValueExact();
    }

    /** What m draws come to, done by acts on an object of its own. */
    private static int byHand(Used twin, long seed, int m) {
        long x = seed;
        int sum = 0;
        int numbers = twin.about(0);
        for (int i = 0; i < m; i++) {
            x = next(x);
            int v = upper31(x);
            if (twin.about(4) != NONE) {
                twin.learn();
            } else {
                twin.make(v % numbers, v / 4 % 2, v / 8 % 10);
            }
            sum += twin.about(2);
        }
        return sum;
    }

    private static long seedBehind(long seed, int m) {
        long x = seed;
        for (int i = 0; i < m; i++) {
            x = next(x);
        }
        return x;
    }

    @Says("DRAWN by THE SEED: m times (1 .. 10)")
    static void promise24_mIs1To10() {
        refuses(BAD, Edges::fresh, used -> used.drawn(0));
        refuses(BAD, Edges::fresh, used -> used.drawn(11));
        refuses(BAD, Edges::busy, used -> used.drawn(-1));
        refuses(BAD, Edges::busy, used -> used.drawn(LEAST_INT));
        refuses(BAD, Edges::hopeless, used -> used.drawn(MOST_INT));
        for (int m = 1; m <= 10; m++) {
            Used used = new Used().tells("L49999");
            used.seed(12);
            due(byHand(new Used().tells("L49999"), 12, m), used.drawn(m));
            due(seedBehind(12, m), used.seed(0));
        }
    }

    @Says("x * 6364136223846793005L + 1442695040888963407L (64 bits, wrapping)")
    static void promise24_theSeedWraps() {
        long[] seeds = {0, 1, -1, Long.MAX_VALUE, Long.MIN_VALUE, Long.MAX_VALUE - 1, 1L << 62, -(1L << 33), 99};
        for (long seed : seeds) {
            Used used = new Used();
            used.seed(seed);
            used.drawn(1);
            due(next(seed), used.seed(seed));
            used.drawn(10);
            due(seedBehind(seed, 10), used.seed(0));
        }
    }

    @Says("v is (int) (x >>> 33)")
    static void promise24_theUpper31Bits() {
        // Of these seeds the next ones are above and below 0: v is 0 or more of each.
        boolean above = false;
        boolean below = false;
        for (long seed = 0; seed < 20; seed++) {
            above |= next(seed) > 0;
            below |= next(seed) < 0;
            Used used = new Used().tells("L3999");
            used.seed(seed);
            due(byHand(new Used().tells("L3999"), seed, 10), used.drawn(10));
        }
        due(1, above && below ? 1 : 0);
    }

    @Says("the MARK of NUMBER v % n, SIDE v / 4 % 2, k v / 8 % 10 is MADE, if it can be")
    static void promise24_ofOneNumberAndOfFour() {
        for (String text : new String[] {"L19", "L299", "L3999", "L49999", SUM, THREE, TWO, MANY}) {
            for (long seed = 100; seed < 106; seed++) {
                Used used = new Used().tells(text);
                used.seed(seed);
                due(byHand(new Used().tells(text), seed, 10), used.drawn(10));
            }
        }
    }

    @Says("is MADE, if it can be")
    static void promise24_noMarkCanBeMade() {
        Used used = new Used().tells("L10");
        due(0, used.drawn(10));
        due(seedBehind(0, 10), used.seed(0));
        Used solved = new Used().tells("L19ra-09");
        due(10, solved.drawn(10));
    }

    @Says("if something BREAKS: LEARNT (if THE TASK is HOPELESS: nothing)")
    static void promise24_aBreakIsLearntFrom() {
        for (long seed = 0; seed < 12; seed++) {
            Used used = new Used();
            broken(used);
            used.seed(seed);
            Used twin = new Used();
            broken(twin);
            due(byHand(twin, seed, 10), used.drawn(10));
            due(0, used.about(5));
        }
        // The break is learnt from at first: one mark is left.
        Used once = new Used();
        broken(once);
        due(2, once.about(2));
        due(1, once.drawn(1));
    }

    @Says("if something BREAKS: LEARNT (if THE TASK is HOPELESS: nothing)")
    static void promise24_withoutHopeNothing() {
        Used used = new Used().tells(NO_WAY);
        due(10, used.drawn(10));
        due(0, used.about(6));
        due(0, used.learn());
        used.seed(7);
        due(10, used.drawn(10));
        due(seedBehind(7, 10), used.seed(0));
    }

    @Says("all from then on: how many MARKS are on THE TRAIL behind each time, added up")
    static void promise24_eachDrawGoesOnFromTheOneAhead() {
        Used used = new Used().tells("L49999");
        used.plays("001 101 201");
        used.seed(3);
        Used twin = new Used().tells("L49999");
        twin.plays("001 101 201");
        due(byHand(twin, 3, 10), used.drawn(10));
        used.seed(3);
        int sum = 0;
        Used second = new Used().tells("L49999");
        second.plays("001 101 201");
        for (int m = 1; m <= 10; m++) {
            used.seed(3);
            int all = used.drawn(m);
            due(byHand(second, seedBehind(3, m - 1), 1), all - sum);
            sum = all;
        }
    }

    @Says("(Nothing changes but THE SEED.)")
    static void promise24_nothingChangesButTheSeed() {
        Call drawnAndSetBack = used -> {
            long was = used.seed(5);
            used.drawn(10);
            return used.seed(was);
        };
        leavesAll(Edges::fresh, drawnAndSetBack);
        leavesAll(Edges::busy, drawnAndSetBack);
        leavesAll(Edges::broken, drawnAndSetBack);
        leavesAll(Edges::hopeless, drawnAndSetBack);
        leavesAll(used -> used.tells(NO_WAY), drawnAndSetBack);
    }
}
