import java.util.ArrayList;
import java.util.HashMap;
import java.util.List;
import java.util.Map;

/** Promises 12 to 16: marks made, breaks learnt from, levels left, steps run, acts undone. */
final class EdgesOfActs extends Edges {
    // ---- promise 12: make, and what is refused

    @Says("UNKNOWN: x; BAD: side (0, 1), k (0 .. 9); LATE")
    static void promise12_noSuchNumber() {
        refuses(UNKNOWN, Edges::fresh, used -> used.make(-1, 0, 1));
        refuses(UNKNOWN, Edges::fresh, used -> used.make(1, 0, 1));
        refuses(UNKNOWN, Edges::busy, used -> used.make(4, 0, 1));
        refuses(UNKNOWN, Edges::busy, used -> used.make(LEAST_INT, 0, 1));
        refuses(UNKNOWN, Edges::busy, used -> used.make(MOST_INT, 0, 1));
        due(1, new Used().tells("L40009").make(3, 0, 1));
    }

    @Says("BAD: side (0, 1), k (0 .. 9)")
    static void promise12_theSideIs0Or1() {
        refuses(BAD, Edges::fresh, used -> used.make(0, -1, 5));
        refuses(BAD, Edges::fresh, used -> used.make(0, 2, 5));
        refuses(BAD, Edges::busy, used -> used.make(3, LEAST_INT, 0));
        refuses(BAD, Edges::busy, used -> used.make(3, MOST_INT, 0));
        due(1, new Used().make(0, 0, 5));
        due(1, new Used().make(0, 1, 5));
    }

    @Says("BAD: side (0, 1), k (0 .. 9)")
    static void promise12_kIs0To9() {
        refuses(BAD, Edges::fresh, used -> used.make(0, 0, 10));
        refuses(BAD, Edges::fresh, used -> used.make(0, 1, -1));
        refuses(BAD, Edges::busy, used -> used.make(3, 0, LEAST_INT));
        refuses(BAD, Edges::busy, used -> used.make(3, 1, MOST_INT));
        due(1, new Used().make(0, 0, 9));
        due(1, new Used().make(0, 1, 0));
    }

    @Says("of several the first that a call names (in just that row)")
    static void promise12_theFirstRefusal() {
        refuses(UNKNOWN, Edges::fresh, used -> used.make(1, 2, 10));
        refuses(UNKNOWN, Edges::broken, used -> used.make(2, 0, 1));
        refuses(UNKNOWN, Edges::broken, used -> used.make(-1, -1, -1));
        refuses(BAD, Edges::broken, used -> used.make(0, 2, 1));
        refuses(BAD, Edges::broken, used -> used.make(0, 0, 10));
        refuses(BAD, Edges::hopeless, used -> used.make(1, 0, -1));
    }

    /** x is 3 .. 6, by marks. */
    private static void between(Used used) {
        used.plays("003 016");
    }

    @Says("A MARK is SO, if its k is LOW or less (SIDE 0), HIGH or more (SIDE 1)")
    static void promise12_lateIfTheMarkIsSo() {
        refuses(LATE, EdgesOfActs::between, used -> used.make(0, 0, 3));
        refuses(LATE, EdgesOfActs::between, used -> used.make(0, 0, 2));
        refuses(LATE, EdgesOfActs::between, used -> used.make(0, 0, 0));
        refuses(LATE, EdgesOfActs::between, used -> used.make(0, 1, 6));
        refuses(LATE, EdgesOfActs::between, used -> used.make(0, 1, 7));
        refuses(LATE, EdgesOfActs::between, used -> used.make(0, 1, 9));
        due(3, new Used().plays("003 016").make(0, 0, 4));
        due(3, new Used().plays("003 016").make(0, 1, 5));
    }

    @Says("it is NOT SO, if k is more than HIGH (SIDE 0), less than LOW (SIDE 1)")
    static void promise12_lateIfTheMarkIsNotSo() {
        refuses(LATE, EdgesOfActs::between, used -> used.make(0, 0, 7));
        refuses(LATE, EdgesOfActs::between, used -> used.make(0, 0, 9));
        refuses(LATE, EdgesOfActs::between, used -> used.make(0, 1, 2));
        refuses(LATE, EdgesOfActs::between, used -> used.make(0, 1, 0));
        due(3, new Used().plays("003 016").make(0, 0, 6));
        due(3, new Used().plays("003 016").make(0, 1, 3));
    }

    @Says("LATE: something BREAKS, or the MARK is SO, or NOT SO.")
    static void promise12_withoutMarksTheEndsAreSo() {
        refuses(LATE, Edges::fresh, used -> used.make(0, 0, 0));
        refuses(LATE, Edges::fresh, used -> used.make(0, 1, 9));
        for (int k = 1; k <= 9; k++) {
            due(1, new Used().make(0, 0, k));
            due(1, new Used().make(0, 1, k - 1));
        }
    }

    @Says("LATE: something BREAKS, or the MARK is SO, or NOT SO.")
    static void promise12_aNumberWithOneValueTakesNoMark() {
        Used used = new Used().tells("L10");
        for (int k = 0; k <= 9; k++) {
            due(LATE, used.make(0, 0, k));
            due(LATE, used.make(0, 1, k));
        }
        due(0, used.about(2));
        due(0, used.about(10));
    }

    @Says("LATE: something BREAKS, or the MARK is SO, or NOT SO.")
    static void promise12_aTopBelow9() {
        due(LATE, new Used().tells("L15").make(0, 0, 6));
        due(1, new Used().tells("L15").make(0, 0, 5));
        due(LATE, new Used().tells("L15").make(0, 1, 5));
        due(1, new Used().tells("L15").make(0, 1, 4));
    }

    @Says("Where something BREAKS no MARK can be MADE; LEFT can be (above LEVEL 0).")
    static void promise12_lateIfARuleBreaks() {
        // z is in no rule: its marks are neither so nor not so.
        Steps aBreak = used -> due(2, used.tells("L3111r1a0+00r110+01").make(0, 0, 1));
        refuses(LATE, aBreak, used -> used.make(2, 0, 1));
        refuses(LATE, aBreak, used -> used.make(2, 1, 0));
        refuses(LATE, Edges::broken, used -> used.make(1, 1, 0));
    }

    @Says("Where something BREAKS no MARK can be MADE; LEFT can be (above LEVEL 0).")
    static void promise12_lateIfACutBreaks() {
        Used used = cutBreaks();
        due(0, used.number(2, 0));
        due(2, used.number(2, 1));
        due(LATE, used.make(2, 0, 1));
        due(LATE, used.make(2, 1, 1));
    }

    @Says("then THE BREAK is still there, no MARK can be MADE")
    static void promise12_lateWithoutHope() {
        refuses(LATE, Edges::hopeless, used -> used.make(1, 0, 1));
        refuses(LATE, Edges::hopeless, used -> used.make(1, 1, 0));
    }

    // ---- promise 12: make, and what is drawn in

    @Says("a MARK that is neither SO nor NOT SO comes onto THE TRAIL, its LEVEL one more than THE LEVEL, REASON -1")
    static void promise12_itsLevelIsOneMore() {
        Used used = new Used().tells(SUM);
        for (int k = 1; k <= 5; k++) {
            due(2 + 2 * k, used.make(0, 0, k));
            due(k, used.about(3));
            due(-1, used.mark(2 * k, 2));
            due(k, used.mark(2 * k, 1));
        }
        due(LATE, used.make(1, 0, 1));
    }

    @Says("by w more than 0 the MARK x, 1, LOW and (ROOM by w, cut), if that is less than HIGH")
    static void promise12_toldIfLessThanHigh() {
        due(List.of(), new Used().tells("L19r1+09").marks());
        due(List.of(18), new Used().tells("L19r1+08").marks());
        due(List.of(), new Used().tells("L19r3+27").marks());
        due(List.of(18), new Used().tells("L19r3+26").marks());
        due(List.of(18), new Used().tells("L19r3+24").marks());
        due(List.of(17), new Used().tells("L19r3+23").marks());
        due(List.of(10), new Used().tells("L19r3+02").marks());
        due(List.of(10), new Used().tells("L19r2+00").marks());
        due(List.of(), new Used().tells("L10r1+00").marks());
    }

    @Says("by w less than 0 the MARK x, 0, HIGH less (ROOM by -w, cut), if that is more than LOW")
    static void promise12_toldIfMoreThanLow() {
        due(List.of(), new Used().tells("L19ra+00").marks());
        due(List.of(1), new Used().tells("L19ra-01").marks());
        due(List.of(9), new Used().tells("L19ra-09").marks());
        due(List.of(), new Used().tells("L19rc+00").marks());
        due(List.of(1), new Used().tells("L19rc-01").marks());
        due(List.of(1), new Used().tells("L19rc-03").marks());
        due(List.of(2), new Used().tells("L19rc-04").marks());
        due(List.of(5), new Used().tells("L19rb-09").marks());
        due(List.of(9), new Used().tells("L19rc-27").marks());
        due(List.of(), new Used().tells("L19rc-28").marks());
    }

    @Says("ROOM is BOUND less LEAST")
    static void promise12_lowIsAddedToTheRoom() {
        // 2 x + y is 9 or less: by y, 0, 4 the room is 5, by x, 0, 1 it is 3.
        Used used = new Used().tells("L299r21+09");
        due(List.of(14), used.marks());
        used.make(1, 0, 4);
        due(List.of(14, 104, 12), used.marks());
        used.make(0, 0, 1);
        due(List.of(14, 104, 12, 1, 117), used.marks());
    }

    @Says("the first RULE that TELLS, else the first CUT: what it TELLS (a RULE: of the least such NUMBER)")
    static void promise12_theLeastNumberOfTheFirstRule() {
        due(List.of(15, 115), new Used().tells(SUM).marks());
        due(List.of(115, 14), new Used().tells("L299r01+05r10+04").marks());
        // Behind each mark the rules are gone through anew: x by rule 0, ahead of z by rule 1.
        due(List.of(114, 14, 214), new Used().tells("L3999r1a0+00r011+04").marks());
    }

    @Says("the first RULE that TELLS, else the first CUT")
    static void promise12_aRuleTellsAheadOfACut() {
        // By y, 0, 2 rule 0 tells x, 1, 0, and the cut of both x, 0, 1.
        Used used = cutBreaks();
        due(List.of(112, 102, 10), used.marks());
        due(List.of(0, -1, 0), used.row(2));
    }

    @Says("the first RULE that TELLS, else the first CUT")
    static void promise12_theFirstOfTwoCutsTells() {
        Used used = new Used().tells(TWO + "r10a1+01r1011+02").plays("301 001 l v 101 001 l v 001");
        due(List.of(1, 310, 110), used.marks());
        due(List.of(-1, 10, 11), used.row(2));
        due(List.of(1, 1, 1), used.row(1));
    }

    @Says("(Ahead of each all RULES, then CUTS are looked at for what BREAKS.)")
    static void promise12_behindABreakNothingIsTold() {
        // y could still be told by rule 2.
        Used used = new Used().tells("L299ra0-05r10+04r01+03");
        due(List.of(5), used.marks());
        due(1, used.about(4));
        due(9, used.number(1, 1));
    }

    @Says("It TELLS the NEGATED one of a MARK of it that is not SO, if all others are SO and that MARK is not NOT SO.")
    static void promise12_aCutTellsOfItsLastOpenMarkAlone() {
        String ahead = "001 301 101 l v";
        Used none = new Used().tells(TWO).plays(ahead);
        due(List.of(), none.marks());
        due(List.of(1, 110), new Used().tells(TWO).plays(ahead + " 001").marks());
        due(List.of(101, 10), new Used().tells(TWO).plays(ahead + " 101").marks());
        // y, 0, 1 is not so already: there is nothing to tell.
        due(List.of(110, 1), new Used().tells(TWO).plays(ahead + " 110 001").marks());
        due(List.of(301), new Used().tells(TWO).plays(ahead + " 301").marks());
    }

    @Says("NEGATED: x, 0, k is x, 1, k less 1; x, 1, k is x, 0, k and 1.")
    static void promise12_negatedOfBothSides() {
        Used up = new Used().tells(SMALL).plays("001 l");
        due(1, up.cut(0, 0));
        due(10, up.mark(0, 0));
        // x is y or more here, and 1 or more together: x, 1, 0 breaks.
        Used down = new Used().tells("L211ra1+00raa-01").plays("010 l");
        due(10, down.cut(0, 0));
        due(1, down.mark(0, 0));
        due(10, down.mark(0, 2));
    }

    @Says("MADE: how many MARKS are on THE TRAIL.")
    static void promise12_thirtySixMarks() {
        Used used = new Used().tells("L49999");
        int marks = 0;
        for (int k = 1; k <= 9; k++) {
            for (int x = 3; x >= 0; x--) {
                marks++;
                due(marks, used.make(x, x % 2, x % 2 == 0 ? k : 9 - k));
            }
        }
        due(36, used.about(2));
        due(1, used.about(7));
        for (int x = 0; x < 4; x++) {
            due(x % 2 == 0 ? 9 : 0, used.number(x, 0));
            due(x % 2 == 0 ? 9 : 0, used.number(x, 1));
        }
    }

    // ---- promise 13: learn

    @Says("LATE: nothing BREAKS, or it is HOPELESS.")
    static void promise13_lateIfNothingBreaks() {
        refuses(LATE, Edges::fresh, Used::learn);
        refuses(LATE, Edges::busy, Used::learn);
        refuses(LATE, Edges::full, Used::learn);
    }

    @Says("LATE: nothing BREAKS, or it is HOPELESS.")
    static void promise13_lateWithoutHope() {
        refuses(LATE, Edges::hopeless, Used::learn);
    }

    @Says("LEARNT: how many MARKS are in the CUT (0: THE TASK is HOPELESS).")
    static void promise13_aCutOfOneOfThreeOfSixMarks() {
        Used one = new Used().tells(SMALL).plays("001");
        due(1, one.learn());
        due(List.of(1), one.marksOfCut(0));
        Used three = new Used().tells("L42111r111a+02r1111+03").plays("001 101 011 201");
        due(3, three.learn());
        due(List.of(1, 101, 201), three.marksOfCut(0));
        Used six = new Used().tells(SIX_MARKS).plays("012 201 211 311");
        due(6, six.learn());
        due(List.of(12, 201, 301, 102, 211, 311), six.marksOfCut(0));
    }

    @Says("If the SET is empty, THE TASK is HOPELESS.")
    static void promise13_noCutWithoutHope() {
        Used used = new Used().tells("L19ra-01r1+00");
        due(List.of(1), used.marks());
        due(1, used.about(4));
        due(0, used.learn());
        due(1, used.about(6));
        due(0, used.about(5));
        due(List.of(1), used.marks());
        due(1, used.about(4));
        due(1, used.about(10));
        // A break that rests on no mark at all.
        Used bare = new Used().tells("L19r0-01");
        due(0, bare.about(2));
        due(0, bare.learn());
        due(1, bare.about(6));
    }

    @Says("at first WHY of THE BREAK, but those of LEVEL 0")
    static void promise13_marksOfLevel0AreInNoCut() {
        Used used = new Used().tells("L3111r00a-01r1a0+00r111+02").plays("001");
        due(List.of(201, 1, 101), used.marks());
        due(2, used.about(4));
        due(1, used.learn());
        due(List.of(1), used.marksOfCut(0));
        due(List.of(201, 10), used.marks());
    }

    @Says("of one NUMBER and one SIDE only the last one is in the SET (whenever one comes to it)")
    static void promise13_onlyTheLastOfOneSide() {
        Used used = new Used().tells("L299r1a+00r11+05").plays("001 003");
        due(1, used.about(4));
        due(1, used.learn());
        due(List.of(3), used.marksOfCut(0));
        due(2, used.number(0, 1));
        // Of both sides of one number each can be in it.
        Used both = new Used().tells("L41434raa32+01r21cc-04").plays("102 112");
        due(2, both.learn());
        due(List.of(102, 112), both.marksOfCut(0));
    }

    @Says("As long as there are two or more of the greatest LEVEL in the SET: "
        + "the last one on THE TRAIL of these goes from it, its WHY comes to it (likewise).")
    static void promise13_backToTheOneMark() {
        // All goes from x through y to z and u: y is nearest to the break.
        Used used = new Used().tells("L41111r1a00+00r01a0+00r010a+00r0011+01").plays("001");
        due(List.of(1, 101, 201, 301), used.marks());
        due(3, used.about(4));
        due(1, used.learn());
        due(List.of(101), used.marksOfCut(0));
        due(List.of(110, 10), used.marks());
        due(List.of(10, 0), used.row(2));
    }

    @Says("WHY of THE BREAK likewise (all NUMBERS with a WEIGHT, all MARKS of the CUT; of all of THE TRAIL)")
    static void promise13_fromACutThatBreaks() {
        Used used = cutBreaks();
        due(1, used.learn());
        due(List.of(102), used.marksOfCut(1));
        due(List.of(112, 111), used.marks());
        due(List.of(0, 11), used.row(2));
        due(0, used.about(3));
        due(2, used.about(5));
    }

    @Says("all MARKS go from THE TRAIL whose LEVEL is more than the greatest LEVEL of the others of the SET (0: there are none)")
    static void promise13_severalLevelsAreLeftAtOnce() {
        Used two = new Used().tells(TWO).plays("001 301 101");
        due(3, two.about(3));
        due(2, two.learn());
        due(1, two.about(3));
        due(List.of(1, 110), two.marks());
        Used three = new Used().tells("L42111r111a+02r1111+03").plays("001 101 011 201");
        due(4, three.about(3));
        due(3, three.learn());
        due(2, three.about(3));
        due(List.of(1, 101, 210), three.marks());
    }

    @Says("all MARKS go from THE TRAIL whose LEVEL is more than the greatest LEVEL of the others of the SET")
    static void promise13_withAllMarksThatThereCanBe() {
        // x + y is z + 9 or less, all three are 26 or less together; the fourth number is in no rule.
        Used used = new Used().tells("L49999r11a0+09r1110+26");
        used.plays("301 302 303 304 305 306 307 308 309 001 002 003 004 005 006 007 008 009");
        due(18, used.about(2));
        used.plays("101 102 103 104 105 106 107 108");
        due(NONE, used.about(4));
        due(36, used.make(1, 0, 9));
        due(27, used.about(3));
        due(1, used.about(4));
        due(2, used.learn());
        due(List.of(9, 109), used.marksOfCut(0));
        due(18, used.about(3));
        due(19, used.about(2));
        due(118, used.mark(18, 0));
        due(10, used.mark(18, 2));
        due(13, used.undo());
        due(36, used.about(2));
        due(1, used.about(4));
    }

    @Says("(0: there are none)")
    static void promise13_aCutOfOneMarkLeavesAllLevels() {
        Used used = new Used().tells("L41111r1a00+00r1100+01").plays("201 301 001");
        due(3, used.about(3));
        due(1, used.learn());
        due(0, used.about(3));
        due(List.of(10), used.marks());
        due(List.of(0), used.row(1));
    }

    @Says("A CUT just LEARNT TELLS at once, behind the MARKS that are left.")
    static void promise13_itTellsAtOnce() {
        Used used = new Used().tells(SIX_MARKS).plays("012 201 211 311 l");
        due(List.of(101, 12, 201, 301, 102, 211), used.marks().subList(0, 6));
        due(302, used.mark(6, 0));
        due(10, used.mark(6, 2));
        due(3, used.mark(6, 1));
    }

    /** What is learnt at 40 cuts: all those ahead are reasons, the one told is forgotten. */
    private static void learnsAtForty(Used used, int forgotten) {
        int[] places = {0, 1, 2, 3, 4, 20, 38, 39};
        Map<Integer, List<Integer>> cuts = new HashMap<>();
        for (int place : places) {
            cuts.put(place, used.marksOfCut(place));
        }
        List<Integer> marks = used.marks();
        List<Integer> reasons = used.row(2);
        due(40, used.about(5));
        for (int cut = 0; cut <= forgotten; cut++) {
            due(cut < forgotten ? 1 : 0, reasons.contains(10 + cut) ? 1 : 0);
        }
        int size = used.learn();
        due(40, used.about(5));
        List<Integer> learnt = used.marksOfCut(39);
        due(size, learnt.size());
        // The new cut is of marks that were on the trail, in their row.
        List<Integer> row = new ArrayList<>(marks);
        row.retainAll(learnt);
        due(row, learnt);
        for (int place : places) {
            if (place != forgotten) {
                due(cuts.get(place), used.marksOfCut(place < forgotten ? place : place - 1));
            }
        }
        int left = sameAhead(marks, used.marks());
        List<Integer> lowered = new ArrayList<>();
        for (int reason : reasons.subList(0, left)) {
            lowered.add(reason > 10 + forgotten ? reason - 1 : reason);
        }
        due(lowered, used.row(2).subList(0, left));
        due(1, lowered.equals(reasons.subList(0, left)) ? 0 : 1);
    }

    private static int sameAhead(List<Integer> first, List<Integer> second) {
        int same = 0;
        while (same < first.size() && same < second.size() && first.get(same).equals(second.get(same))) {
            same++;
        }
        return same;
    }

    @Says("(if there are 40, the first one that is no REASON of a MARK of THE TRAIL is forgotten ahead of it: "
        + "later ones are at one place less then, REASONS likewise)")
    static void promise13_atFortyTheFirstIsForgotten() {
        learnsAtForty(fortyCuts(), 0);
    }

    @Says("(if there are 40, the first one that is no REASON of a MARK of THE TRAIL is forgotten ahead of it: "
        + "later ones are at one place less then, REASONS likewise)")
    static void promise13_atFortyAReasonIsNotForgotten() {
        Used used = new Used().tells(MANY);
        due(50, used.run(50));
        due(41, used.run(41));
        learnsAtForty(used, 1);
    }

    @Says("if there are 40")
    static void promise13_at39NoneIsForgotten() {
        Used used = new Used().tells(MANY);
        due(50, used.run(50));
        due(30, used.run(30));
        due(39, used.about(5));
        List<Integer> first = used.marksOfCut(0);
        List<Integer> last = used.marksOfCut(38);
        int size = used.learn();
        due(40, used.about(5));
        due(first, used.marksOfCut(0));
        due(last, used.marksOfCut(38));
        due(size, used.marksOfCut(39).size());
    }

    @Says("(if there are 40, the first one that is no REASON of a MARK of THE TRAIL is forgotten ahead of it: "
        + "later ones are at one place less then, REASONS likewise)")
    static void promise13_atFortyWithAllMarksThatThereCanBe() {
        learnsAtForty(fortyCutsAllMarks(), 6);
    }

    @Says("later ones are at one place less then, REASONS likewise")
    static void promise13_atFortyTheReasonsOfAllMarks() {
        Used used = fortyCutsAllMarks();
        due(List.of(10, 11, 12, 13, 14, 15, 21, 31, 41, 42, 43, 44, 45, 46, 47, 48, 49, 1, 1, MADE),
            used.row(2).subList(0, 20));
        due(1, used.learn());
        due(List.of(10, 11, 12, 13, 14, 15, 20, 30, 40, 41, 42, 43, 44, 45, 46, 47, 48, 1, 1, 49),
            used.row(2).subList(0, 20));
        due(List.of(109), used.marksOfCut(39));
        due(118, used.mark(19, 0));
        due(0, used.about(3));
        due(36, used.about(2));
    }

    @Says("the first one that is no REASON of a MARK of THE TRAIL is forgotten ahead of it")
    static void promise13_marksThatGoAreLookedAtToo() {
        Used used = new Used().tells("L46687rbb2b+03r22b2-03").plays(LONG);
        learnsAtForty(used, 2);
    }

    @Says("the first one that is no REASON of a MARK of THE TRAIL is forgotten ahead of it")
    static void promise13_marksThatWereOnTheTrailAreNotLookedAt() {
        // Of the task ahead the mark behind 25 others was told by cut 0: it is not on the trail any more.
        Used used = new Used().tells("L49999r11a0+09r1110+26").plays("009 109 l v");
        due(List.of(9, 109), used.marksOfCut(0));
        used.plays("301 302 303 304 305 306 307 308 309 001 002 003 004 005 006 007 008 101 102 103 203 204 009");
        due(26, used.about(2));
        due(10, used.mark(25, 2));
        used.tells(MANY);
        due(50, used.run(50));
        due(31, used.run(31));
        due(25, used.about(2));
        learnsAtForty(used, 0);
    }

    private static final String LONG =
        "105 010 106 l l l 207 002 103 003 l v v v 110 010 l 314 003 207 v v v v 305 v 012 101 215 103 l 204 310 "
        + "102 l l 205 311 l l l l 301 313 205 208 113 002 l l l 214 l 312 002 311 l l v v v v 112 010 216 206 l l "
        + "304 v v v 217 312 101 216 v v v v 112 313 003 301 111 302 v v v v v v 215 v 301 213 l 111 311 002 012 l "
        + "013 l 101 l l 214 l l 312 002 207 101 l l v v v 011 315 113 204 304 217 101 l l v v v v v 213 v 015 013 "
        + "002 101 311 v v v v v 203 301 004 l 002 208 101 l l 207 102 l l l 110 l 111 206 001 l l l 206 207 103 "
        + "104 l l 217 l l v v 214 v 310 101 011 206 l";

    @Says("HOPELESS stays so till it is undone, gone back from, or told anew")
    static void promise13_withoutHopeAllStaysSo() {
        Used used = new Used();
        hopeless(used);
        due(LATE, used.learn());
        due(0, used.run(50));
        due(LATE, used.leave());
        due(LATE, used.make(1, 0, 1));
        due(1, used.about(4));
        due(1, used.about(6));
        due(1, used.undo());
        due(1, used.about(6));
        due(0, used.undo());
        due(0, used.about(6));
    }

    // ---- promise 14: leave

    @Says("LEFT at LEVEL 0 can not be.")
    static void promise14_lateAtLevel0() {
        refuses(LATE, Edges::fresh, Used::leave);
        refuses(LATE, used -> used.tells(SUM), Used::leave);
        refuses(LATE, Edges::hopeless, Used::leave);
        refuses(LATE, used -> used.tells(SMALL).plays("001 l"), Used::leave);
    }

    @Says("LEFT: THE LEVEL then. LATE: THE LEVEL is 0.")
    static void promise14_fromEachLevelToNone() {
        Used used = new Used().tells("L49999");
        for (int x = 0; x < 4; x++) {
            for (int k = 1; k <= 9; k++) {
                used.make(x, 0, k);
            }
        }
        for (int level = 35; level >= 0; level--) {
            due(level, used.leave());
            due(level, used.about(2));
        }
        due(LATE, used.leave());
        due(14, used.about(10));
    }

    @Says("LEFT: all MARKS of THE LEVEL go, then it is DRAWN IN.")
    static void promise14_allMarksOfTheLevelGo() {
        Used used = new Used().tells(SUM).plays("002 101");
        due(List.of(15, 115, 2, 113, 101, 14), used.marks());
        due(1, used.leave());
        due(List.of(15, 115, 2, 113), used.marks());
        due(0, used.leave());
        due(List.of(15, 115), used.marks());
        due(5, used.number(0, 1));
        due(0, used.number(0, 0));
    }

    @Says("Where something BREAKS no MARK can be MADE; LEFT can be (above LEVEL 0).")
    static void promise14_whereSomethingBreaks() {
        Used used = new Used();
        broken(used);
        due(0, used.leave());
        due(NONE, used.about(4));
        due(0, used.about(5));
        Used cut = cutBreaks();
        due(0, cut.leave());
        due(NONE, cut.about(4));
        due(1, cut.about(5));
    }

    /** Something breaks, or no rule and no cut has anything to tell. */
    private static void isDrawnIn(Used used) {
        if (used.about(4) != NONE) {
            return;
        }
        int numbers = used.about(0);
        int rules = used.about(1);
        for (int rule = 0; rule < rules; rule++) {
            int room = used.rule(rule, 4) - 100 - (used.rule(rule, 5) - 1000);
            due(1, room >= 0 ? 1 : 0);
            for (int x = 0; x < numbers; x++) {
                int weight = Math.abs(used.rule(rule, x) - 10);
                boolean tells = weight > 0 && room / weight < used.number(x, 1) - used.number(x, 0);
                due(0, tells ? 1 : 0);
            }
        }
        int cuts = used.about(5);
        for (int cut = 0; cut < cuts; cut++) {
            List<Integer> open = used.marksOfCut(cut).stream().filter(mark -> !isSo(used, mark)).toList();
            due(0, open.size() == 1 && !isNotSo(used, open.get(0)) ? 1 : 0);
            due(0, open.isEmpty() ? 1 : 0);
        }
    }

    @Says("THE TRAIL is always DRAWN IN.")
    static void promise14_behindEachActTheTrailIsDrawnIn() {
        String moves = "012 201 211 311 l v 311 v v 103 l v";
        for (int length = 3; length <= moves.length(); length++) {
            if (length == moves.length() || moves.charAt(length) == ' ') {
                isDrawnIn(new Used().tells(SIX_MARKS).plays(moves.substring(0, length)));
                Used undone = new Used().tells(SIX_MARKS).plays(moves.substring(0, length));
                undone.keep(0);
                undone.undo();
                isDrawnIn(undone);
                undone.again(0);
                isDrawnIn(undone);
            }
        }
        Used used = cutBreaks();
        used.leave();
        isDrawnIn(used);
        used.plays("102 l");
        isDrawnIn(used);
    }

    // ---- promise 15: run

    @Says("RUN: how many STEPS were done. BAD: n (1 .. 50).")
    static void promise15_nIs1To50() {
        refuses(BAD, Edges::fresh, used -> used.run(0));
        refuses(BAD, Edges::fresh, used -> used.run(51));
        refuses(BAD, Edges::busy, used -> used.run(-1));
        refuses(BAD, Edges::hopeless, used -> used.run(LEAST_INT));
        refuses(BAD, Edges::broken, used -> used.run(MOST_INT));
        due(1, new Used().tells(MANY).run(1));
        due(49, new Used().tells(MANY).run(49));
        due(50, new Used().tells(MANY).run(50));
    }

    @Says("RUN n: n STEPS, or fewer: till it is SOLVED or HOPELESS.")
    static void promise15_tillItIsSolved() {
        Used three = new Used().tells("L49999");
        due(3, three.run(3));
        due(0, three.about(7));
        due(1, three.run(50));
        due(1, three.about(7));
        Used four = new Used().tells("L49999");
        due(4, four.run(4));
        due(1, four.about(7));
        due(4, new Used().tells("L49999").run(5));
        due(4, new Used().tells("L49999").run(50));
    }

    @Says("A STEP by which THE TASK becomes HOPELESS was done.")
    static void promise15_tillItIsHopeless() {
        Used used = new Used().tells(NO_WAY);
        due(1, used.run(50));
        due(1, used.about(6));
        due(1, new Used().tells(NO_WAY).run(1));
        Used many = new Used().tells(MANY);
        due(50, many.run(50));
        due(44, many.run(44));
        due(0, many.about(6));
        due(1, many.run(50));
        due(1, many.about(6));
        due(0, many.run(1));
    }

    @Says("if THE TASK is HOPELESS, nothing")
    static void promise15_withoutHopeNothing() {
        Used used = new Used();
        hopeless(used);
        List<Integer> marks = used.marks();
        due(0, used.run(1));
        due(0, used.run(50));
        due(marks, used.marks());
        due(3, used.about(10));
    }

    @Says("else nothing: all is SOLVED")
    static void promise15_solvedNothing() {
        Used used = new Used().tells("L40000");
        due(0, used.run(1));
        due(0, used.run(50));
        due(0, used.about(2));
        due(2, used.about(10));
    }

    @Says("if something BREAKS: LEARNT")
    static void promise15_aBreakIsLearntFrom() {
        Used used = new Used();
        broken(used);
        due(1, used.run(1));
        due(1, used.about(5));
        due(List.of(10), used.marks());
        due(2, used.about(10));
    }

    @Says("else, if some NUMBER has a LOW less than HIGH: of the least such one x, 1, LOW is MADE")
    static void promise15_theLeastNumberThatIsOpen() {
        Used used = new Used().tells("L40990").plays("103");
        due(1, used.run(1));
        due(List.of(103, 113), used.marks());
        due(1, used.run(1));
        due(List.of(103, 113, 210), used.marks());
        due(List.of(-1, -1, -1), used.row(2));
        due(0, used.run(1));
    }

    @Says("RUN n: n STEPS, or fewer")
    static void promise15_stepsOneByOneAreTheSame() {
        Used one = new Used().tells(MANY);
        for (int step = 0; step < 50; step++) {
            due(1, one.run(1));
        }
        Used all = new Used().tells(MANY);
        all.run(50);
        due(one.marks(), all.marks());
        due(one.row(2), all.row(2));
        due(one.about(5), all.about(5));
        due(14, one.about(10));
        due(1, all.about(10));
    }

    // ---- promise 16: undo

    @Says("The last ACT is undone: how many are left. LATE: there is none.")
    static void promise16_lateIfThereIsNone() {
        refuses(LATE, Edges::fresh, Used::undo);
        refuses(LATE, used -> used.tells(SUM), Used::undo);
        Used used = new Used();
        used.make(0, 0, 1);
        due(0, used.undo());
        due(LATE, used.undo());
        due(0, used.about(2));
    }

    @Says("ACTS (MADE; LEARNT; LEFT; RUN) are a row")
    static void promise16_eachKindOfActIsUndone() {
        Used used = new Used().tells(SMALL).plays("001 l 101 v");
        used.run(3);
        due(4, used.undo());
        due(List.of(10), used.marks());
        due(3, used.undo());
        due(List.of(10, 101), used.marks());
        due(1, used.about(3));
        due(2, used.undo());
        due(List.of(10), used.marks());
        due(1, used.about(5));
        due(1, used.undo());
        due(List.of(1, 101), used.marks());
        due(0, used.about(5));
        due(1, used.about(4));
        due(0, used.undo());
        due(List.of(), used.marks());
        due(NONE, used.about(4));
    }

    @Says("never more than 14; if it has 14, the first one is forgotten ahead of the next")
    static void promise16_fourteenActsAreUndone() {
        Used used = new Used().tells("L299");
        used.plays("001 002 003 004 005 006 007 101 102 103 104 105 106 107");
        due(14, used.about(10));
        for (int left = 13; left >= 0; left--) {
            due(left, used.undo());
            due(left, used.about(2));
        }
        due(LATE, used.undo());
        due(0, used.number(0, 0));
    }

    @Says("never more than 14; if it has 14, the first one is forgotten ahead of the next")
    static void promise16_theFifteenthForgetsTheFirst() {
        Used used = new Used().tells("L299");
        used.plays("001 002 003 004 005 006 007 008 101 102 103 104 105 106 107");
        due(14, used.about(10));
        for (int left = 13; left >= 0; left--) {
            due(left, used.undo());
            due(left + 1, used.about(2));
        }
        due(LATE, used.undo());
        due(1, used.number(0, 0));
    }

    @Says("if it has 14, the first one is forgotten ahead of the next")
    static void promise16_behindAnUndoThereIsRoomForOne() {
        Used used = new Used();
        full(used);
        due(13, used.undo());
        due(15, used.make(1, 0, 9));
        due(14, used.about(10));
        due(13, used.undo());
        due(14, used.about(2));
        due(6, used.number(1, 0));
    }

    @Says("Each that is not refused is an ACT.")
    static void promise16_whatIsRefusedIsNoAct() {
        Used used = new Used().tells(SUM);
        used.make(0, 0, 1);
        used.make(0, 0, 0);
        used.make(0, 2, 0);
        used.make(5, 0, 0);
        used.learn();
        used.run(0);
        used.run(51);
        due(1, used.about(10));
        used.leave();
        due(2, used.about(10));
        used.leave();
        due(2, used.about(10));
        due(1, used.undo());
        due(1, used.number(0, 0));
    }

    @Says("Each that is not refused is an ACT.")
    static void promise16_whatOnlyAsksIsNoAct() {
        Used used = new Used();
        used.make(0, 0, 1);
        used.judge(1, 105);
        used.drawn(3);
        used.see(0, 0, 1, 1);
        used.unsee();
        used.keep(0);
        used.seed(5);
        used.wipe();
        due(1, used.about(10));
        due(0, used.undo());
        due(0, used.about(2));
    }

    @Says("Each that is not refused is an ACT.")
    static void promise16_aRunWithoutStepsIsAnAct() {
        Used used = new Used().tells("L10");
        due(0, used.run(50));
        due(1, used.about(10));
        due(0, used.undo());
        due(LATE, used.undo());
    }

    @Says("THE TEXT, SEEN, THE SEED, RULES, TOPS are not undone or kept")
    static void promise16_whatIsNotUndone() {
        Used used = new Used().tells(SUM);
        used.make(0, 0, 1);
        used.write('x');
        used.see(0, 0, 1, 1);
        used.seed(9);
        used.keep(0);
        due(0, used.undo());
        due(11, used.about(12));
        due(1, used.about(11));
        due(9, used.seed(0));
        due(1, used.about(1));
        due(9, used.number(0, 2));
        due(4, used.again(0));
    }

    @Says("HOPELESS stays so till it is undone")
    static void promise16_undoneThereIsHope() {
        Used used = new Used();
        hopeless(used);
        due(0, used.undo());
        due(0, used.about(6));
        due(1, used.about(4));
        due(0, used.learn());
    }

    @Says("The last ACT is undone: how many are left.")
    static void promise16_aCutUndoneLeavesNothing() {
        Used used = new Used().tells(SIX_MARKS).plays("012 201 211 311 l");
        due(6, used.marksOfCut(0).size());
        due(4, used.undo());
        due(0, used.about(5));
        due(UNKNOWN, used.cut(0, 0));
        due(UNKNOWN, used.follows(0));
        due(1, used.about(4));
        due(6, used.learn());
        due(1, used.about(5));
    }

    @Says("later ones are at one place less then, REASONS likewise")
    static void promise16_aForgottenCutComesBack() {
        Used used = fortyCuts();
        List<Integer> first = used.marksOfCut(0);
        List<Integer> second = used.marksOfCut(1);
        List<Integer> reasons = used.row(2);
        used.learn();
        due(second, used.marksOfCut(0));
        due(2, used.undo());
        due(first, used.marksOfCut(0));
        due(second, used.marksOfCut(1));
        due(reasons, used.row(2));
        due(40, used.about(5));
    }
}
