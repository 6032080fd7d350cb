import java.util.ArrayList;
import java.util.Collections;
import java.util.List;

/** Promises 6 to 11: what can be asked of the task, its numbers, rules, marks and cuts. */
final class EdgesOfAsking extends Edges {
    private static final String SIX_RULES = "L19" + "r0+00".repeat(5);

    // ---- promise 6: about

    @Says("letters of THE TEXT (12). BAD.")
    static void promise06_whatBelow0IsBad() {
        refuses(BAD, Edges::fresh, used -> used.about(-1));
        refuses(BAD, Edges::busy, used -> used.about(-1));
        refuses(BAD, Edges::hopeless, used -> used.about(LEAST_INT));
    }

    @Says("letters of THE TEXT (12). BAD.")
    static void promise06_whatAbove12IsBad() {
        refuses(BAD, Edges::fresh, used -> used.about(13));
        refuses(BAD, Edges::busy, used -> used.about(13));
        refuses(BAD, Edges::hopeless, used -> used.about(MOST_INT));
    }

    @Says("In what follows nothing is changed.")
    static void promise06_askingChangesNothing() {
        for (int what = 0; what <= 12; what++) {
            int asked = what;
            leavesAll(Edges::busy, used -> used.about(asked));
            leavesAll(Edges::broken, used -> used.about(asked));
        }
    }

    @Says("NUMBERS (what = 0), RULES (1)")
    static void promise06_fewestAndMostNumbersAndRules() {
        due(1, new Used().tells("L10").about(0));
        due(4, new Used().tells("L40000").about(0));
        due(0, new Used().tells("L40000").about(1));
        due(6, new Used().tells(SIX_RULES + "r1+30").about(1));
    }

    @Says("MARKS on THE TRAIL (2), THE LEVEL (3)")
    static void promise06_noMarksAndAllThatThereCanBe() {
        Used used = new Used().tells("L49999");
        due(0, used.about(2));
        due(0, used.about(3));
        fillTrail(used);
        due(36, used.about(2));
        due(36, used.about(3));
    }

    // Each mark takes one value from a number: more than 36 there can not be.
    private static Used fillTrail(Used used) {
        for (int x = 0; x < 4; x++) {
            for (int k = 1; k <= 9; k++) {
                due(9 * x + k, used.make(x, 0, k));
            }
        }
        return used;
    }

    @Says("What is DRAWN IN is of the same LEVEL as the MARK MADE last (0, if none is).")
    static void promise06_theLevelOfWhatIsDrawnIn() {
        Used used = new Used().tells(SUM);
        due(2, used.about(2));
        due(0, used.about(3));
        due(4, used.make(0, 0, 3));
        due(List.of(0, 0, 1, 1), used.row(1));
        due(1, used.about(3));
    }

    @Says("THE BREAK (4: a RULE, or 10 and the place of a CUT; NONE)")
    static void promise06_theFirstAndTheSixthRuleBreak() {
        due(NONE, new Used().tells(SIX_RULES + "r0+00").about(4));
        due(5, new Used().tells(SIX_RULES + "r0-01").about(4));
        due(0, new Used().tells("L19r0-01").about(4));
    }

    @Says("THE BREAK: the first RULE that BREAKS, else the first CUT; NONE.")
    static void promise06_theFirstRuleOfSeveral() {
        due(0, new Used().tells("L19" + "r0-01".repeat(6)).about(4));
        due(1, new Used().tells("L19r0+00" + "r0-01".repeat(5)).about(4));
    }

    @Says("THE BREAK (4: a RULE, or 10 and the place of a CUT; NONE)")
    static void promise06_aCutBreaks() {
        due(10, cutBreaks().about(4));
        Used used = new Used().tells("L3233rc21+00r3cb+01r3cb-05").plays("001 201 102 l l l");
        due(11, used.about(4));
        for (int mark : used.marksOfCut(1)) {
            due(1, isSo(used, mark) ? 1 : 0);
        }
    }

    @Says("THE BREAK: the first RULE that BREAKS, else the first CUT; NONE.")
    static void promise06_aRuleAheadOfACut() {
        Used used = new Used().tells("L41434raa32+01r21cc-04").plays("102 112 l l");
        // Both marks of cut 0, y, 0, 2 and y, 1, 2, are so: it breaks, too.
        due(List.of(102, 112), used.marksOfCut(0));
        due(2, used.number(1, 0));
        due(2, used.number(1, 1));
        due(1, used.about(4));
    }

    @Says("THE BREAK: the first RULE that BREAKS, else the first CUT; NONE.")
    static void promise06_theFirstCutOfTwo() {
        Used used = new Used().tells("L43344ra0ac-02rc12b+01r32c2-04r1cbb-01")
            .plays("313 312 011 102 l 101 l v 102");
        for (int cut = 0; cut < 2; cut++) {
            for (int mark : used.marksOfCut(cut)) {
                due(1, isSo(used, mark) ? 1 : 0);
            }
        }
        due(10, used.about(4));
    }

    @Says("A RULE BREAKS, if that is more than its BOUND.")
    static void promise06_leastAtTheBoundAndOneMore() {
        // x, 0, 4 draws y to 4 or more; x + y at most 8, at most 7.
        Used at = new Used().tells("L299r1a+00r11+08");
        at.make(0, 0, 4);
        due(1008, at.rule(1, 5));
        due(NONE, at.about(4));
        Used above = new Used().tells("L299r1a+00r11+07");
        due(NONE, above.about(4));
        above.make(0, 0, 4);
        due(1008, above.rule(1, 5));
        due(1, above.about(4));
        Used never = new Used().tells("L19ra-09r3+26");
        due(1027, never.rule(1, 5));
        due(1, never.about(4));
        due(NONE, new Used().tells("L19ra-09r3+27").about(4));
    }

    @Says("CUTS (5)")
    static void promise06_noCutsAnd40() {
        Used used = new Used().tells(MANY);
        due(0, used.about(5));
        due(50, used.run(50));
        due(29, used.run(29));
        due(39, used.about(5));
        due(2, used.run(2));
        due(40, used.about(5));
        due(1, used.run(1));
        due(40, used.about(5));
    }

    @Says("1 if THE TASK is HOPELESS (6)")
    static void promise06_hopelessOnlyWhenItIsLearnt() {
        Used used = new Used().tells(NO_WAY);
        due(0, used.about(8));
        due(0, used.about(6));
        due(0, used.learn());
        due(1, used.about(6));
    }

    @Says("1 if it is SOLVED (7: nothing BREAKS, each LOW is HIGH)")
    static void promise06_solved() {
        due(1, new Used().tells("L10").about(7));
        due(1, new Used().tells("L40000").about(7));
        due(0, new Used().tells("L40001").about(7));
        due(0, new Used().tells("L41000").about(7));
        due(1, fillTrail(new Used().tells("L49999")).about(7));
        due(1, new Used().tells("L19ra-09").about(7));
    }

    @Says("1 if it is SOLVED (7: nothing BREAKS, each LOW is HIGH)")
    static void promise06_whatBreaksIsNotSolved() {
        Used used = new Used().tells("L10ra-01");
        due(0, used.number(0, 0));
        due(0, used.number(0, 1));
        due(0, used.about(4));
        due(0, used.about(7));
    }

    @Says("WAYS: how many there are by all RULES (THE TRAIL set aside).")
    static void promise06_noWaysAndAllWays() {
        due(0, new Used().tells(NO_WAY).about(8));
        due(1, new Used().tells("L10").about(8));
        due(10000, new Used().tells("L49999").about(8));
        due(10000, new Used().tells("L49999r3000+27").about(8));
        due(1, new Used().tells("L49999r3333+00").about(8));
        due(9999, new Used().tells("L49999raaaa-01").about(8));
        due(9990, new Used().tells("L49999raaa0-01").about(8));
        Used used = new Used().tells(SUM);
        used.make(0, 0, 3);
        due(21, used.about(8));
    }

    @Says("WAYS: how many there are by all RULES (THE TRAIL set aside).")
    static void promise06_waysOfAnyWeightsAndTops() {
        for (String text : MIXED) {
            due(new ByHand(text).ways(0), new Used().tells(text).about(8));
        }
        String six = "L44444" + "r1000+03r0100+03r0010+03r0001+03r1111+08raaaa-02";
        due(new ByHand(six).ways(0), new Used().tells(six).about(8));
    }

    @Says("OPEN: how many of them by which all MARKS of THE TRAIL are so.")
    static void promise06_noWayOpenAndAllOpen() {
        Used all = new Used().tells("L49999");
        due(10000, all.about(9));
        all.make(3, 0, 9);
        due(1000, all.about(9));
        all.make(2, 1, 0);
        due(100, all.about(9));
        Used one = fillTrail(new Used().tells("L49999"));
        due(1, one.about(9));
        due(10000, one.about(8));
        Used none = new Used();
        broken(none);
        due(0, none.about(9));
        due(2, none.about(8));
        due(0, new Used().tells(NO_WAY).about(9));
    }

    @Says("MARKS of LEVEL 0 hold in all WAYS.")
    static void promise06_atLevel0AllWaysAreOpen() {
        for (String text : MIXED) {
            Used used = new Used().tells(text);
            due(used.about(8), used.about(9));
        }
        // What cuts of one mark tell holds in all ways, too.
        Used small = new Used().tells(SMALL).plays("001 l");
        due(1, small.about(2));
        due(2, small.about(9));
        due(2, small.about(8));
        Used three = cutBreaks();
        due(1, three.learn());
        due(0, three.about(3));
        due(three.about(8), three.about(9));
        due(new ByHand(THREE).ways(0), three.about(9));
    }

    @Says("ACTS (MADE; LEARNT; LEFT; RUN) are a row (never more than 14")
    static void promise06_noActsAnd14() {
        Used used = new Used().tells("L299");
        due(0, used.about(10));
        for (int act = 1; act <= 16; act++) {
            due(act > 1 ? 0 : 2, used.run(50));
            due(Math.min(14, act), used.about(10));
        }
    }

    @Says("SEEN (11), letters of THE TEXT (12)")
    static void promise06_nothingSeenOrWrittenAndAllThatThereCanBe() {
        Used used = new Used();
        due(0, used.about(11));
        due(0, used.about(12));
        for (int i = 1; i <= 8; i++) {
            used.see(0, 0, 1, 1);
            due(Math.min(6, i), used.about(11));
        }
        used.writes("L".repeat(59));
        due(59, used.about(12));
        used.writes("LL");
        due(60, used.about(12));
    }

    // ---- promise 7: number

    @Says("UNKNOWN -1 (there is no such NUMBER, RULE, CUT, SLOT)")
    static void promise07_noSuchNumber() {
        refuses(UNKNOWN, Edges::fresh, used -> used.number(-1, 0));
        refuses(UNKNOWN, Edges::fresh, used -> used.number(1, 0));
        refuses(UNKNOWN, Edges::busy, used -> used.number(4, 0));
        refuses(UNKNOWN, Edges::busy, used -> used.number(LEAST_INT, 3));
        refuses(UNKNOWN, Edges::busy, used -> used.number(MOST_INT, 3));
        due(9, new Used().tells("L40009").number(3, 1));
        due(UNKNOWN, new Used().tells("L3000").number(3, 1));
    }

    @Says("LEAST OF ALL (3; NONE). UNKNOWN; BAD.")
    static void promise07_whatIs0To3() {
        refuses(BAD, Edges::fresh, used -> used.number(0, -1));
        refuses(BAD, Edges::fresh, used -> used.number(0, 4));
        refuses(BAD, Edges::busy, used -> used.number(3, LEAST_INT));
        refuses(BAD, Edges::busy, used -> used.number(3, MOST_INT));
    }

    @Says("of several the first that a call names (in just that row)")
    static void promise07_unknownComesAheadOfBad() {
        refuses(UNKNOWN, Edges::fresh, used -> used.number(1, 4));
        refuses(UNKNOWN, Edges::busy, used -> used.number(-1, -1));
    }

    @Says("LOW of x is the greatest k of its MARKS of SIDE 0 on THE TRAIL")
    static void promise07_lowAndHighOfSeveralMarks() {
        Used used = new Used().plays("002 018 005 016");
        due(5, used.number(0, 0));
        due(6, used.number(0, 1));
        due(9, used.number(0, 2));
        used.leave();
        due(8, used.number(0, 1));
        used.leave();
        due(2, used.number(0, 0));
        used.leave();
        due(9, used.number(0, 1));
        used.leave();
        due(0, used.number(0, 0));
    }

    @Says("each from 0 to its TOP (0 .. 9; 9 at first)")
    static void promise07_topsOf0And9() {
        Used used = new Used().tells("L209");
        for (int what = 0; what <= 3; what++) {
            due(0, used.number(0, what));
        }
        due(0, used.number(1, 0));
        due(9, used.number(1, 1));
        due(9, used.number(1, 2));
        due(0, used.number(1, 3));
    }

    @Says("LEAST OF ALL of a NUMBER: the least value it has in any WAY; NONE: there is none.")
    static void promise07_leastOfAllAt0At9AndNone() {
        due(0, new Used().tells("L19r1+00").number(0, 3));
        due(1, new Used().tells("L19ra-01").number(0, 3));
        due(9, new Used().tells("L19ra-09").number(0, 3));
        due(NONE, new Used().tells("L19ra-10").number(0, 3));
        Used none = new Used().tells("L299r00-01");
        due(NONE, none.number(0, 3));
        due(NONE, none.number(1, 3));
    }

    @Says("LEAST OF ALL of a NUMBER: the least value it has in any WAY; NONE: there is none.")
    static void promise07_leastOfAllIsNotLow() {
        // 2 x is 2 y, and 5 or more together: bounds alone do not tell that x is 3 or more.
        Used used = new Used().tells("L244r2b+00rb2+00raa-05");
        due(1, used.number(0, 0));
        due(3, used.number(0, 3));
        due(3, used.number(1, 3));
        used.make(0, 0, 4);
        due(4, used.number(0, 0));
        due(3, used.number(0, 3));
    }

    // ---- promise 8: rule

    @Says("UNKNOWN -1 (there is no such NUMBER, RULE, CUT, SLOT)")
    static void promise08_noSuchRule() {
        refuses(UNKNOWN, Edges::fresh, used -> used.rule(0, 0));
        refuses(UNKNOWN, Edges::busy, used -> used.rule(-1, 0));
        refuses(UNKNOWN, Edges::busy, used -> used.rule(2, 0));
        refuses(UNKNOWN, Edges::busy, used -> used.rule(LEAST_INT, 4));
        refuses(UNKNOWN, Edges::busy, used -> used.rule(MOST_INT, 5));
        Used six = new Used().tells(SIX_RULES + "r3+29");
        due(13, six.rule(5, 0));
        due(129, six.rule(5, 4));
        due(UNKNOWN, six.rule(6, 0));
    }

    @Says("Of a RULE the WEIGHT of a NUMBER, and 10 (what = 0 .. n less 1), "
        + "its BOUND, and 100 (4), its LEAST, and 1000 (5). UNKNOWN; BAD.")
    static void promise08_whatIsANumberOr4Or5() {
        refuses(BAD, Edges::busy, used -> used.rule(0, -1));
        refuses(BAD, Edges::busy, used -> used.rule(0, 6));
        refuses(BAD, Edges::busy, used -> used.rule(1, LEAST_INT));
        refuses(BAD, Edges::busy, used -> used.rule(1, MOST_INT));
        for (int n = 1; n <= 4; n++) {
            Used used = new Used().tells("L" + n + "9".repeat(n) + "r" + "2".repeat(n) + "+07");
            for (int what = 0; what <= 3; what++) {
                due(what < n ? 12 : BAD, used.rule(0, what));
            }
            due(107, used.rule(0, 4));
            due(1000, used.rule(0, 5));
            due(BAD, used.rule(0, 6));
        }
    }

    @Says("of several the first that a call names (in just that row)")
    static void promise08_unknownComesAheadOfBad() {
        refuses(UNKNOWN, Edges::fresh, used -> used.rule(0, 6));
        refuses(UNKNOWN, Edges::busy, used -> used.rule(-1, -1));
    }

    @Says("for each NUMBER a WEIGHT (-3 .. 3), and a BOUND (-30 .. 30)")
    static void promise08_leastAndMostWeightsAndBounds() {
        Used used = new Used().tells("L200r3c+30rc0-30");
        due(13, used.rule(0, 0));
        due(7, used.rule(0, 1));
        due(130, used.rule(0, 4));
        due(7, used.rule(1, 0));
        due(10, used.rule(1, 1));
        due(70, used.rule(1, 4));
    }

    @Says("LEAST of a RULE: the sum of WEIGHT times LOW (of WEIGHTS more than 0), "
        + "WEIGHT times HIGH (of others).")
    static void promise08_leastOfAll() {
        Used used = new Used().tells("L49999rcccc-30r3333+30");
        due(1000 - 108, used.rule(0, 5));
        due(1000, used.rule(1, 5));
        used.make(0, 1, 7);
        due(1000 - 102, used.rule(0, 5));
        used.make(0, 0, 2);
        due(1006, used.rule(1, 5));
        Used above = new Used().tells("L49999ra000-09r0a00-09r00a0-09r000a-09r3333+30");
        // Behind the second 9 rule 4 breaks: no more is told.
        due(1054, above.rule(4, 5));
        due(991, above.rule(0, 5));
        due(4, above.about(4));
        due(List.of(9, 109), above.marks());
    }

    @Says("WEIGHT times HIGH (of others)")
    static void promise08_aWeightOf0AddsNothing() {
        Used used = new Used().tells("L299r01+05");
        due(1000, used.rule(0, 5));
        used.make(0, 0, 9);
        due(1000, used.rule(0, 5));
        used.make(1, 0, 5);
        due(1005, used.rule(0, 5));
    }

    // ---- promise 9: mark

    @Says("NONE: there are not so many (for any other i, too).")
    static void promise09_thereAreNotSoMany() {
        refuses(NONE, Edges::fresh, used -> used.mark(0, 0));
        refuses(NONE, Edges::busy, used -> used.mark(-1, 0));
        refuses(NONE, Edges::busy, used -> used.mark(3, 0));
        refuses(NONE, Edges::busy, used -> used.mark(LEAST_INT, 3));
        refuses(NONE, Edges::busy, used -> used.mark(MOST_INT, 3));
        Used used = new Used();
        busy(used);
        due(201, used.mark(2, 0));
        due(NONE, used.mark(3, 0));
        due(NONE, used.mark(3, 3));
    }

    @Says("BAD: what.")
    static void promise09_whatIs0To3() {
        refuses(BAD, Edges::busy, used -> used.mark(0, -1));
        refuses(BAD, Edges::busy, used -> used.mark(0, 4));
        refuses(BAD, Edges::busy, used -> used.mark(1, LEAST_INT));
        refuses(BAD, Edges::busy, used -> used.mark(1, MOST_INT));
    }

    @Says("BAD: what.")
    static void promise09_badComesAheadOfNone() {
        refuses(BAD, Edges::fresh, used -> used.mark(0, 4));
        refuses(BAD, Edges::busy, used -> used.mark(-1, 4));
        refuses(BAD, Edges::busy, used -> used.mark(99, -1));
    }

    @Says("A MARK is told as 100 times x, 10 times the SIDE, and k.")
    static void promise09_theEndsOfMarks() {
        Used used = fillTrail(new Used().tells("L49999"));
        due(1, used.mark(0, 0));
        due(1, used.mark(0, 1));
        due(9, used.mark(8, 0));
        due(101, used.mark(9, 0));
        due(309, used.mark(35, 0));
        due(36, used.mark(35, 1));
        due(-1, used.mark(35, 2));
        due(0, used.mark(35, 3));
        due(NONE, used.mark(36, 0));
        Used low = new Used().tells("L49999").plays("018 310");
        due(List.of(18, 310), low.marks());
    }

    @Says("a REASON (-1: MADE; 0 .. 5: that RULE; 10 and on: 10 and the place of a CUT)")
    static void promise09_theEndsOfReasons() {
        Used six = new Used().tells(SIX_RULES + "r1+05");
        due(5, six.mark(0, 2));
        due(2, six.make(0, 0, 3));
        due(-1, six.mark(1, 2));
        due(0, new Used().tells("L19r1+05").mark(0, 2));
        Used cut = new Used().tells(SMALL).plays("001 l");
        due(10, cut.mark(0, 2));
        Used many = fortyCuts();
        due(true, many.row(2).contains(49));
        due(false, many.row(2).contains(50));
    }

    private static void due(boolean want, boolean got) {
        due(want ? 1 : 0, got ? 1 : 0);
    }

    @Says("(3; 0: it was MADE, or rests on nothing)")
    static void promise09_aMarkMadeRestsOnNothing() {
        Used used = new Used().tells(SUM);
        due(0, used.mark(0, 3));
        due(0, used.mark(1, 3));
        used.make(0, 0, 3);
        due(0, used.mark(2, 3));
        due(1, used.mark(3, 3));
    }

    @Says("for each other NUMBER with a WEIGHT in it, that is not 0")
    static void promise09_aWeightOf0IsNotLookedAt() {
        Used used = new Used().tells("L3999r101+05").plays("103 002");
        // The rule of x and z told z, 1, 3; y has a mark, too.
        due(213, used.mark(4, 0));
        due(1, used.mark(4, 3));
    }

    @Says("for each other NUMBER with a WEIGHT in it, that is not 0")
    static void promise09_allThreeOthers() {
        Used used = new Used().tells("L41111r1111+03").plays("001 101 201");
        due(List.of(1, 101, 201, 310), used.marks());
        due(3, used.mark(3, 3));
    }

    @Says("for each of its other MARKS the last MARK ahead on THE TRAIL of the same NUMBER and SIDE, if there is one")
    static void promise09_allFiveOthersOfACut() {
        Used used = new Used().tells(SIX_MARKS).plays("012 201 211 311 l");
        due(List.of(12, 201, 301, 102, 211, 311), used.marksOfCut(0));
        due(302, used.mark(6, 0));
        due(10, used.mark(6, 2));
        due(5, used.mark(6, 3));
    }

    @Says("the last MARK ahead on THE TRAIL of SIDE 0 (WEIGHT more than 0), 1 (less than 0), if there is one")
    static void promise09_theSideByTheWeight() {
        // x + z is y or less: y, 0, 3 is of the other side, so that x rests on z alone.
        Used other = new Used().tells("L3959r1a1+00").plays("103 202");
        due(13, other.mark(4, 0));
        due(1, other.mark(4, 3));
        Used same = new Used().tells("L3959r1a1+00").plays("114 202");
        due(List.of(15, 215, 114, 14, 214, 202, 12, 102), same.marks());
        due(2, same.mark(6, 3));
        due(1, same.mark(7, 3));
    }

    @Says("the last MARK ahead on THE TRAIL")
    static void promise09_marksBehindAreNotLookedAt() {
        Used used = new Used().tells(SUM);
        used.make(1, 0, 3);
        used.make(0, 0, 1);
        due(List.of(15, 115, 103, 12, 1, 114), used.marks());
        due(List.of(0, 0, 0, 1, 0, 1), used.row(3));
    }

    @Says("for each of its other MARKS the last MARK ahead on THE TRAIL of the same NUMBER and SIDE, if there is one")
    static void promise09_toldByACut() {
        Used alone = new Used().tells(SMALL).plays("001 l");
        due(List.of(10), alone.marks());
        due(0, alone.mark(0, 3));
        Used two = new Used().tells(TWO).plays("001 301 101 l");
        due(List.of(1, 110), two.marks());
        due(1, two.mark(1, 3));
        // Of y, 0, 2 and y, 1, 2 the second one was negated: y, 0, 3 rests on the first.
        Used both = new Used().tells("L41434raa32+01r21cc-04").plays("102 112 l");
        due(103, both.mark(3, 0));
        due(10, both.mark(3, 2));
        due(1, both.mark(3, 3));
    }

    @Says("for each of its other MARKS the last MARK ahead on THE TRAIL of the same NUMBER and SIDE, if there is one")
    static void promise09_marksThatAreNotInTheCutAreNotLookedAt() {
        // x, 0, 1 of the first number is on the trail, and not in the cut of the next two.
        Used used = new Used().tells("L41111r011a+01r0111+02").plays("001 101 201 l");
        due(List.of(101, 201), used.marksOfCut(0));
        due(List.of(1, 101, 210), used.marks());
        due(1, used.mark(2, 3));
    }

    @Says("for each of its other MARKS the last MARK ahead on THE TRAIL of the same NUMBER and SIDE, if there is one")
    static void promise09_theNegatedMarkItselfIsNotLookedAt() {
        // Of the cut of x, 0, 1 and y, 0, 2 the second one is negated: y, 0, 1 ahead is not its why.
        Used used = new Used().tells("L3121r11a+02r111+03").plays("101 001 102 l");
        due(List.of(1, 102), used.marksOfCut(0));
        due(List.of(101, 1, 111), used.marks());
        due(List.of(0, 0, 1), used.row(3));
    }

    @Says("WHY of MARKS of LEVEL 0 is told like that of others.")
    static void promise09_whyAtLevel0() {
        Used used = new Used().tells("L299r11+05ra0-01");
        due(List.of(0, 0, 0, 0), used.row(1));
        due(List.of(0, 0, 0, 1), used.row(3));
    }

    @Says("THE TRAIL may hold several MARKS of one NUMBER and SIDE, each more than the one ahead.")
    static void promise09_severalMarksOfOneSide() {
        Used used = new Used().tells(SUM).plays("001 002 003");
        due(List.of(15, 115, 1, 114, 2, 113, 3, 112), used.marks());
        due(List.of(0, 0, 1, 1, 2, 2, 3, 3), used.row(1));
    }

    // ---- promise 10: cut

    @Says("UNKNOWN -1 (there is no such NUMBER, RULE, CUT, SLOT)")
    static void promise10_noSuchCut() {
        refuses(UNKNOWN, Edges::fresh, used -> used.cut(0, 0));
        refuses(UNKNOWN, Edges::busy, used -> used.cut(-1, 0));
        refuses(UNKNOWN, Edges::busy, used -> used.cut(1, 0));
        refuses(UNKNOWN, Edges::busy, used -> used.cut(LEAST_INT, 0));
        refuses(UNKNOWN, Edges::busy, used -> used.cut(MOST_INT, 0));
        Used many = fortyCuts();
        due(true, many.cut(39, 0) >= 0);
        due(UNKNOWN, many.cut(40, 0));
    }

    @Says("The k-th MARK (from 0) of a CUT; NONE: there are not so many (for any other k, too). UNKNOWN.")
    static void promise10_thereAreNotSoManyMarks() {
        refuses(NONE, Edges::busy, used -> used.cut(0, -1));
        refuses(NONE, Edges::busy, used -> used.cut(0, 2));
        refuses(NONE, Edges::busy, used -> used.cut(0, LEAST_INT));
        refuses(NONE, Edges::busy, used -> used.cut(0, MOST_INT));
        Used used = new Used();
        busy(used);
        due(1, used.cut(0, 0));
        due(101, used.cut(0, 1));
        Used one = new Used().tells(SMALL).plays("001 l");
        due(1, one.cut(0, 0));
        due(NONE, one.cut(0, 1));
        // The rows of cuts lie side by side: what is behind the first one's end is not its own.
        Used rows = new Used().tells("L41434raa32+01r21cc-04").plays("102 112 l l");
        due(List.of(102, 112), rows.marksOfCut(0));
        due(List.of(103), rows.marksOfCut(1));
        for (int k = 2; k <= 17; k++) {
            due(NONE, rows.cut(0, k));
        }
    }

    @Says("of several the first that a call names (in just that row)")
    static void promise10_unknownComesAheadOfNone() {
        due(UNKNOWN, new Used().cut(0, -1));
        refuses(UNKNOWN, Edges::busy, used -> used.cut(1, -1));
        refuses(UNKNOWN, Edges::busy, used -> used.cut(-1, 2));
    }

    @Says("its MARKS are a CUT, in their row on THE TRAIL, behind all CUTS")
    static void promise10_theMarksAreInTheirRowOnTheTrail() {
        due(List.of(1, 101), new Used().tells(TWO).plays("001 301 101 l").marksOfCut(0));
        due(List.of(101, 1), new Used().tells(TWO).plays("101 301 001 l").marksOfCut(0));
        Used two = new Used().tells(TWO + "r10a1+01r1011+02").plays("301 001 l v 101 001 l");
        due(List.of(301, 1), two.marksOfCut(0));
        due(List.of(101, 1), two.marksOfCut(1));
    }

    @Says("CUTS are sets of MARKS that can not all be SO")
    static void promise10_askingChangesNothing() {
        leavesAll(Edges::busy, used -> used.cut(0, 0));
        leavesAll(Edges::busy, used -> used.cut(0, 1));
    }

    // ---- promise 11: follows

    @Says("UNKNOWN -1 (there is no such NUMBER, RULE, CUT, SLOT)")
    static void promise11_noSuchCut() {
        refuses(UNKNOWN, Edges::fresh, used -> used.follows(0));
        refuses(UNKNOWN, Edges::busy, used -> used.follows(-1));
        refuses(UNKNOWN, Edges::busy, used -> used.follows(1));
        refuses(UNKNOWN, Edges::busy, used -> used.follows(LEAST_INT));
        refuses(UNKNOWN, Edges::busy, used -> used.follows(MOST_INT));
        Used many = fortyCuts();
        due(1, many.follows(39));
        due(UNKNOWN, many.follows(40));
    }

    @Says("FOLLOWS: whether by each WAY some MARK of a CUT is not so: 1 (as it always is), 0.")
    static void promise11_eachCutFollows() {
        Used many = fortyCuts();
        List<Integer> answers = new ArrayList<>();
        for (int cut = 0; cut < 40; cut++) {
            answers.add(many.follows(cut));
        }
        due(Collections.nCopies(40, 1), answers);
        due(1, new Used().tells(SMALL).plays("001 l").follows(0));
        due(1, new Used().tells(TWO).plays("001 301 101 l").follows(0));
    }

    @Says("FOLLOWS: whether by each WAY some MARK of a CUT is not so: 1 (as it always is), 0.")
    static void promise11_byTheTopsThatThereAreNow() {
        // Only by the tops of 1 x, 0, 1 can not be; ways by higher ones were counted ahead.
        Used used = new Used().tells("L3999");
        due(1000, used.about(8));
        used.tells("L3111r2aa+00r110+01").plays("001 l");
        due(List.of(1), used.marksOfCut(0));
        due(1, used.follows(0));
    }

    @Says("In what follows nothing is changed.")
    static void promise11_askingChangesNothing() {
        leavesAll(Edges::busy, used -> used.follows(0));
    }
}
