import java.util.List;

/** Promises 1 to 5: a new object, its text, the task. */
final class EdgesOfTask extends Edges {
    private static final String SIX_RULES = "L49999" + "r0123-09".repeat(6);

    // ---- promise 1: a new object

    @Says("One number, no rules.")
    static void promise01_oneNumber() {
        Used used = new Used();
        due(1, used.about(0));
        due(0, used.number(0, 0));
        due(UNKNOWN, used.number(1, 0));
        due(UNKNOWN, used.number(-1, 0));
    }

    @Says("each from 0 to its TOP (0 .. 9; 9 at first)")
    static void promise01_itsTopIs9() {
        Used used = new Used();
        due(9, used.number(0, 2));
        due(9, used.number(0, 1));
        due(1, used.make(0, 0, 9));
    }

    @Says("RULES are 0, 1, .. (never more than 6; none at first)")
    static void promise01_noRules() {
        Used used = new Used();
        due(0, used.about(1));
        due(UNKNOWN, used.rule(0, 0));
        due(UNKNOWN, used.share(0, true));
    }

    @Says("THE TRAIL is a row of MARKS (none at first)")
    static void promise01_noMarks() {
        Used used = new Used();
        due(0, used.about(2));
        due(NONE, used.mark(0, 0));
    }

    @Says("LOW of x is the greatest k of its MARKS of SIDE 0 on THE TRAIL, 0 without any; "
        + "HIGH the least of SIDE 1, TOP without any.")
    static void promise01_lowIs0HighIsTopWithoutMarks() {
        Used used = new Used();
        due(0, used.number(0, 0));
        due(9, used.number(0, 1));
    }

    @Says("THE LEVEL is that of the last MARK of THE TRAIL; 0 without any.")
    static void promise01_theLevelIs0() {
        Used used = new Used();
        due(0, used.about(3));
        due(LATE, used.leave());
    }

    @Says("CUTS are sets of MARKS that can not all be SO, in a row (never more than 40; none at first).")
    static void promise01_noCuts() {
        Used used = new Used();
        due(0, used.about(5));
        due(UNKNOWN, used.cut(0, 0));
        due(UNKNOWN, used.follows(0));
    }

    @Says("THE BREAK: the first RULE that BREAKS, else the first CUT; NONE.")
    static void promise01_nothingBreaks() {
        Used used = new Used();
        due(NONE, used.about(4));
        due(0, used.about(6));
        due(LATE, used.learn());
    }

    @Says("LATE: there is none.")
    static void promise01_noActs() {
        Used used = new Used();
        due(0, used.about(10));
        due(LATE, used.undo());
    }

    @Says("never more than 6, none at first")
    static void promise01_nothingSeen() {
        Used used = new Used();
        due(0, used.about(11));
        due(10, used.which());
        due(0, used.unsee());
    }

    @Says("THE SEED, a long; 0 at first")
    static void promise01_theSeedIs0() {
        due(0, new Used().seed(1));
    }

    @Says("its length, if it is only not at its end")
    static void promise01_theTextIsEmpty() {
        Used used = new Used();
        due(0, used.about(12));
        due(0, used.fault());
        due(0, used.wipe());
    }

    @Says("LATE: none were kept.")
    static void promise01_nothingIsKept() {
        Used used = new Used();
        due(LATE, used.again(0));
        due(LATE, used.again(1));
    }

    @Says("WAYS of no RULES are all values.")
    static void promise01_tenWays() {
        Used used = new Used();
        due(10, used.about(8));
        due(10, used.about(9));
        due(0, used.about(7));
    }

    @Says("`CutTrail()`: One number, no rules.")
    static void promise01_objectsShareNothing() {
        Used first = new Used();
        busy(first);
        Used second = new Used();
        due(1, second.about(0));
        due(0, second.about(2));
        due(0, second.about(12));
        due(0, second.seed(0));
        due(LATE, second.again(1));
        due(4, first.about(0));
    }

    @Says("An object is used for at most 512 calls after it has been made")
    static void promise01_all512CallsAreAnswered() {
        Used used = new Used();
        while (used.callsLeft() > 2) {
            used.see(0, 0, 1, 1);
            used.unsee();
        }
        due(1, used.make(0, 0, 5));
        due(5, used.number(0, 0));
        due(0, used.callsLeft());
    }

    @Says("BAD -2, LATE -3, FULL -4. What is refused changes nothing. NONE is -9.")
    static void promise01_theConstants() {
        due(UNKNOWN, CutTrail.UNKNOWN);
        due(BAD, CutTrail.BAD);
        due(LATE, CutTrail.LATE);
        due(FULL, CutTrail.FULL);
        due(NONE, CutTrail.NONE);
    }

    // ---- promise 2: write

    @Says("A letter (0 .. 255) comes behind THE TEXT: how long it is.")
    static void promise02_letter0() {
        Used used = new Used();
        due(1, used.write(0));
        due(2, used.write(1));
        due(0, used.fault());
    }

    @Says("A letter (0 .. 255) comes behind THE TEXT: how long it is.")
    static void promise02_letter255() {
        Used used = new Used();
        due(1, used.write(255));
        due(2, used.write(254));
        due(2, used.about(12));
    }

    @Says("A letter (0 .. 255) comes behind THE TEXT: how long it is. BAD;")
    static void promise02_letterBelow0IsBad() {
        refuses(BAD, Edges::fresh, used -> used.write(-1));
        refuses(BAD, Edges::busy, used -> used.write(-1));
        refuses(BAD, Edges::busy, used -> used.write(LEAST_INT));
        // 'L' less 256: not the same letter.
        refuses(BAD, Edges::fresh, used -> used.write('L' - 256));
    }

    @Says("A letter (0 .. 255) comes behind THE TEXT: how long it is. BAD;")
    static void promise02_letterAbove255IsBad() {
        refuses(BAD, Edges::fresh, used -> used.write(256));
        refuses(BAD, Edges::busy, used -> used.write(256));
        refuses(BAD, Edges::busy, used -> used.write(MOST_INT));
        // 'L' and 256: not the same letter.
        refuses(BAD, Edges::fresh, used -> used.write('L' + 256));
    }

    @Says("THE TEXT is letters (never more than 60).")
    static void promise02_sixtyLettersAreTaken() {
        Used used = new Used();
        for (int length = 1; length <= 60; length++) {
            due(length, used.write('L'));
        }
        due(60, used.about(12));
    }

    @Says("FULL: there are 60.")
    static void promise02_theSixtyFirstIsRefused() {
        Used used = new Used();
        used.writes("r".repeat(59));
        due(60, used.write('r'));
        due(FULL, used.write('r'));
        due(FULL, used.write(0));
        due(FULL, used.write(255));
        refuses(FULL, Edges::full, again -> again.write('r'));
    }

    @Says("of several the first that a call names (in just that row)")
    static void promise02_badComesAheadOfFull() {
        refuses(BAD, Edges::full, used -> used.write(-1));
        refuses(BAD, Edges::full, used -> used.write(256));
    }

    @Says("A letter (0 .. 255) comes behind THE TEXT")
    static void promise02_itComesBehindTheOthers() {
        Used used = new Used();
        used.writes("L19");
        due(NONE, used.fault());
        due(4, used.write('r'));
        due(4, used.fault());
        due(0, used.about(1));
    }

    // ---- promise 3: wipe

    @Says("THE TEXT is empty: how long it was.")
    static void promise03_ofAnEmptyText() {
        Used used = new Used();
        due(0, used.wipe());
        due(0, used.wipe());
    }

    @Says("THE TEXT is empty: how long it was.")
    static void promise03_ofOneLetter() {
        Used used = new Used();
        used.write('L');
        due(1, used.wipe());
        due(0, used.wipe());
        due(0, used.about(12));
        due(0, used.fault());
    }

    @Says("THE TEXT is empty: how long it was.")
    static void promise03_ofAFullText() {
        Used used = new Used();
        used.writes("r".repeat(60));
        due(60, used.wipe());
        due(0, used.about(12));
        due(1, used.write('L'));
        used.writes("r".repeat(58));
        due(60, used.write('r'));
        due(FULL, used.write('r'));
    }

    @Says("THE TEXT, SEEN, THE SEED, RULES, TOPS are not undone or kept")
    static void promise03_theTaskStays() {
        Used used = new Used();
        busy(used);
        due(TWO.length() + 1, used.wipe());
        due(4, used.about(0));
        due(2, used.about(1));
        due(5, used.about(10));
        due(2, used.about(11));
        due(1, used.about(5));
        due(2, used.again(1));
        due(LATE, used.task());
    }

    // ---- promise 4: fault

    private static void fault(int want, String text) {
        Used used = new Used();
        used.writes(text);
        due(want, used.fault());
        due(text.length(), used.about(12));
    }

    @Says("its length, if it is only not at its end")
    static void promise04_ofAnEmptyText() {
        fault(0, "");
    }

    @Says("A TASK is a TEXT: L, n (1 .. 4), n figures (TOPS)")
    static void promise04_firstIsL() {
        fault(1, "L");
        for (String other : List.of("K", "M", "l", "r", "1", " ", "" + (char) 0, "" + (char) 255)) {
            fault(0, other);
            fault(0, other + "19");
        }
    }

    @Says("A TASK is a TEXT: L, n (1 .. 4), n figures (TOPS)")
    static void promise04_nIs1To4() {
        fault(1, "L0");
        fault(2, "L1");
        fault(2, "L4");
        fault(1, "L5");
        fault(1, "L/");
        fault(1, "L9");
        fault(1, "LL");
        fault(1, "L-1");
    }

    @Says("n figures (TOPS)")
    static void promise04_topsAre0To9() {
        fault(NONE, "L10");
        fault(NONE, "L19");
        fault(2, "L1/");
        fault(2, "L1:");
        fault(2, "L1a");
        fault(5, "L4999:");
        fault(NONE, "L40909");
    }

    @Says("n figures (TOPS)")
    static void promise04_oneTopTooFewOrTooMany() {
        fault(5, "L4999");
        fault(NONE, "L49999");
        fault(6, "L499999");
        fault(2, "L1");
        fault(3, "L199");
        fault(3, "L29r");
    }

    @Says("then RULES, none or more: r, n WEIGHTS, BOUND")
    static void promise04_aRuleBeginsWithR() {
        fault(4, "L19r");
        fault(3, "L19q");
        fault(3, "L19s");
        fault(3, "L19R");
        fault(9, "L19r1+05r");
        fault(8, "L19r1+05L");
        fault(8, "L19r1+055");
    }

    @Says("a WEIGHT is a figure 0 .. 3 or a letter a .. c (-1 .. -3)")
    static void promise04_weightsAre0To3AndAToC() {
        for (String weight : List.of("0", "1", "2", "3", "a", "b", "c")) {
            fault(5, "L19r" + weight);
            fault(NONE, "L19r" + weight + "+00");
        }
        for (String other : List.of("/", "4", "9", "`", "d", "A", "C", "-", "+", " ")) {
            fault(4, "L19r" + other);
            fault(4, "L19r" + other + "+00");
        }
    }

    @Says("r, n WEIGHTS, BOUND")
    static void promise04_oneWeightTooFewOrTooMany() {
        fault(9, "L49999r12");
        fault(9, "L49999r12+");
        fault(10, "L49999r123+00");
        fault(NONE, "L49999r1230+00");
        fault(11, "L49999r12300+00");
        fault(5, "L19r1a+00");
    }

    @Says("BOUND is + or -, then two figures 00 .. 30.")
    static void promise04_aBoundHasASign() {
        fault(6, "L19r1+");
        fault(6, "L19r1-");
        for (String other : List.of("*", ",", ".", "0", " ")) {
            fault(5, "L19r1" + other);
        }
        fault(6, "L19r1+-05");
    }

    @Says("BOUND is + or -, then two figures 00 .. 30.")
    static void promise04_boundsOf00And30() {
        fault(NONE, "L19r1+00");
        fault(NONE, "L19r1-00");
        fault(NONE, "L19r1+30");
        fault(NONE, "L19r1-30");
        fault(NONE, "L19r1+29");
        fault(NONE, "L19r1-09");
    }

    @Says("BOUND is from -30 to 30 (behind a 3 a 0 alone).")
    static void promise04_boundsOf31And40() {
        fault(7, "L19r1+3");
        for (char figure = '1'; figure <= '9'; figure++) {
            fault(7, "L19r1+3" + figure);
            fault(7, "L19r1-3" + figure);
        }
        fault(6, "L19r1+4");
        fault(6, "L19r1+40");
        fault(6, "L19r1-4");
        fault(6, "L19r1+9");
    }

    @Says("BOUND is + or -, then two figures 00 .. 30.")
    static void promise04_boundsOfOtherSigns() {
        fault(6, "L19r1+/");
        fault(6, "L19r1+a");
        fault(7, "L19r1+0/");
        fault(7, "L19r1+0:");
        fault(7, "L19r1+2a");
        fault(7, "L19r1+3/");
        fault(7, "L19r1+3:");
    }

    @Says("BOUND is + or -, then two figures 00 .. 30.")
    static void promise04_oneFigureTooFewOrTooMany() {
        fault(7, "L19r1+0");
        fault(8, "L19r1+000");
        fault(7, "L19r1+0r");
    }

    @Says("its length, if it is only not at its end")
    static void promise04_everyBeginningOfATask() {
        String text = "L209r3c-30ra0+07";
        List<Integer> ends = List.of(4, 10, 16);
        for (int length = 0; length <= text.length(); length++) {
            fault(ends.contains(length) ? NONE : length, text.substring(0, length));
        }
    }

    @Says("the first letter by which THE TEXT can be no TASK, whatever came behind it")
    static void promise04_theFirstOfSeveralFaults() {
        fault(1, "L9r4*99");
        fault(4, "L19r4*99");
        fault(5, "L19r1*99");
        fault(6, "L19r1+99");
        fault(0, "xL19");
        fault(3, "L19xr1+00");
    }

    @Says("(its length set aside; so a seventh r)")
    static void promise04_sixRulesAreATask() {
        fault(NONE, "L19" + "r1+30".repeat(6));
        fault(NONE, SIX_RULES);
        fault(NONE, "L19" + "r1+30".repeat(5));
    }

    @Says("(its length set aside; so a seventh r)")
    static void promise04_aSeventhRIsAFault() {
        fault(33, "L19" + "r1+30".repeat(6) + "r");
        fault(33, "L19" + "r1+30".repeat(7));
        fault(40, "L299" + "r11+30".repeat(6) + "r");
        fault(47, "L3999" + "r111+30".repeat(6) + "r");
        fault(54, SIX_RULES + "r");
        fault(54, SIX_RULES + "r01230");
        fault(54, SIX_RULES + "x");
    }

    @Says("(Without blanks.)")
    static void promise04_aBlankIsAFault() {
        fault(0, " L19");
        fault(1, "L 19");
        fault(3, "L19 ");
        fault(3, "L19 r1+00");
        fault(8, "L19r1+00 ");
    }

    @Says("FAULT; NONE.")
    static void promise04_itChangesNothing() {
        leavesAll(Edges::fresh, Used::fault);
        leavesAll(Edges::busy, Used::fault);
        leavesAll(Edges::full, Used::fault);
    }

    // ---- promise 5: task

    @Says("LATE: a FAULT.")
    static void promise05_aFaultIsLate() {
        refuses(LATE, Edges::busy, Used::task);
        refuses(LATE, Edges::full, Used::task);
        refuses(LATE, EdgesOfTask::seventhRule, Used::task);
    }

    private static void seventhRule(Used used) {
        used.tells("L19r1+05");
        used.make(0, 0, 2);
        used.keep(0);
        used.wipe();
        used.writes("L19" + "r1+30".repeat(6) + "r1+30");
    }

    @Says("a task() that is LATE changes nothing")
    static void promise05_aTextNotAtItsEndIsLate() {
        refuses(LATE, Edges::fresh, Used::task);
        refuses(LATE, used -> unfinished(used, "L"), Used::task);
        refuses(LATE, used -> unfinished(used, "L4999"), Used::task);
        refuses(LATE, used -> unfinished(used, "L15r1+0"), Used::task);
    }

    private static void unfinished(Used used, String text) {
        broken(used);
        used.wipe();
        used.writes(text);
    }

    @Says("THE TEXT is THE TASK")
    static void promise05_noRules() {
        Used used = new Used().writes("L40369");
        due(0, used.task());
        due(4, used.about(0));
        due(0, used.about(1));
        due(0, used.number(0, 2));
        due(3, used.number(1, 2));
        due(6, used.number(2, 2));
        due(9, used.number(3, 2));
        due(UNKNOWN, used.rule(0, 0));
        due(1 * 4 * 7 * 10, used.about(8));
    }

    @Says("THE TEXT is THE TASK (no ACTS; what was kept is gone; THE TEXT, SEEN, THE SEED stay): how many RULES.")
    static void promise05_sixRules() {
        Used used = new Used().writes(SIX_RULES);
        due(6, used.task());
        due(6, used.about(1));
        due(10, used.rule(5, 0));
        due(91, used.rule(5, 4));
        due(UNKNOWN, used.rule(6, 0));
    }

    @Says("NUMBERS are 0 .. n less 1 (n is 1 ..")
    static void promise05_fewerNumbersThanBefore() {
        Used used = new Used().tells("L49999r1111+05").tells("L13");
        due(1, used.about(0));
        due(0, used.about(1));
        due(3, used.number(0, 1));
        due(UNKNOWN, used.number(1, 0));
        due(UNKNOWN, used.rule(0, 0));
        due(4, used.about(8));
    }

    @Says("NUMBERS are 0 .. n less 1 (n is 1 ..")
    static void promise05_moreNumbersThanBefore() {
        Used used = new Used().tells("L13").tells("L49999");
        due(4, used.about(0));
        due(9, used.number(3, 1));
        due(10000, used.about(8));
        due(UNKNOWN, used.number(4, 0));
    }

    @Says("a WEIGHT is a figure 0 .. 3 or a letter a .. c (-1 .. -3)")
    static void promise05_theEndsOfWeightsAndBounds() {
        Used used = new Used().tells("L40000r3c0a+30rc3a0-30");
        due(13, used.rule(0, 0));
        due(7, used.rule(0, 1));
        due(10, used.rule(0, 2));
        due(9, used.rule(0, 3));
        due(130, used.rule(0, 4));
        due(7, used.rule(1, 0));
        due(70, used.rule(1, 4));
    }

    @Says("BOUND is + or -, then two figures 00 .. 30.")
    static void promise05_aBoundOf0HasEitherSign() {
        Used used = new Used().tells("L19r1+00r1-00");
        due(100, used.rule(0, 4));
        due(100, used.rule(1, 4));
        due(1, used.about(8));
    }

    @Says("(no ACTS; what was kept is gone; THE TEXT, SEEN, THE SEED stay)")
    static void promise05_noActs() {
        Used used = new Used().tells(SUM);
        used.make(0, 0, 1);
        used.make(0, 0, 2);
        due(2, used.about(10));
        due(1, used.task());
        due(0, used.about(10));
        due(LATE, used.undo());
    }

    @Says("what was kept is gone")
    static void promise05_whatWasKeptIsGone() {
        Used used = new Used().tells(SUM);
        used.keep(0);
        used.keep(1);
        due(1, used.task());
        due(LATE, used.again(0));
        due(LATE, used.again(1));
    }

    @Says("THE TEXT, SEEN, THE SEED stay")
    static void promise05_theTextSeenTheSeedStay() {
        Used used = new Used();
        used.see(0, 0, 5, 1);
        used.see(0, 1, 7, 1);
        used.seed(-3);
        used.writes("L16");
        due(0, used.task());
        due(3, used.about(12));
        due(NONE, used.fault());
        due(2, used.about(11));
        due(2, used.which());
        due(-3, used.seed(0));
        due(4, used.write('r'));
    }

    @Says("When THE TASK is told, THE TRAIL has no MARKS (but what is DRAWN IN at LEVEL 0), there are no CUTS.")
    static void promise05_noMarksNoCuts() {
        Used used = new Used().tells(SMALL).plays("001 l 101");
        due(1, used.about(5));
        due(2, used.about(2));
        due(2, used.task());
        due(0, used.about(2));
        due(0, used.about(3));
        due(0, used.about(5));
        due(UNKNOWN, used.cut(0, 0));
        due(0, used.number(1, 0));
        due(1, used.number(0, 1));
    }

    @Says("When THE TASK is told, THE TRAIL has no MARKS (but what is DRAWN IN at LEVEL 0), there are no CUTS.")
    static void promise05_whatIsDrawnInAtLevel0() {
        Used used = new Used().writes("L299r11+05ra0-01");
        due(2, used.task());
        due(List.of(15, 115, 1, 114), used.marks());
        due(List.of(0, 0, 0, 0), used.row(1));
        due(List.of(0, 0, 1, 0), used.row(2));
        due(0, used.about(10));
    }

    @Says("DRAWN IN: as long as nothing BREAKS and something TELLS")
    static void promise05_allMarksThatThereCanBeAreDrawnIn() {
        Used solved = new Used().tells(ALL_DRAWN);
        due(36, solved.about(2));
        due(0, solved.about(3));
        due(1, solved.about(7));
        due(NONE, solved.about(4));
        due(new ByHand(ALL_DRAWN).drawnIn(), solved.marks());
        due(NONE, solved.mark(36, 0));
        Used broken = new Used().tells(ALL_BROKEN);
        due(36, broken.about(2));
        due(2, broken.about(4));
        due(new ByHand(ALL_BROKEN).drawnIn(), broken.marks());
        due(0, broken.learn());
        due(1, broken.about(6));
    }

    @Says("DRAWN IN: as long as nothing BREAKS and something TELLS")
    static void promise05_whatEachTaskDrawsIn() {
        for (String text : MIXED) {
            due(new ByHand(text).drawnIn(), new Used().tells(text).marks());
        }
    }

    @Says("THE TEXT is THE TASK")
    static void promise05_nothingIsLeftOfTheTaskAhead() {
        // More numbers, higher tops, more rules were there, and were counted.
        Used used = new Used().tells("L49999" + "r1111+05".repeat(6));
        due(126, used.about(8));
        due(126, used.which());
        used.chance(3, 3, true);
        used.tells("L212r11+02");
        due(5, used.about(8));
        due(5, used.which());
        due(5, used.about(9));
        due(0, used.number(0, 3));
        due(1, used.share(0, true));
        due(0, used.chance(7, 10, true));
        due(1, used.chance(6, 10, true));
        due(2, used.run(50));
        due(1, used.about(7));
    }

    @Says("there are no CUTS")
    static void promise05_nothingIsLeftOfTheCutsAhead() {
        // A cut of six marks was there; one of two, at its place, tells, is why, and breaks as if alone.
        Used used = new Used().tells(SIX_MARKS).plays("012 201 211 311 l");
        used.tells(THREE).plays("010 102 l");
        due(List.of(10, 102), used.marksOfCut(0));
        due(List.of(112, 10, 111), used.marks());
        due(List.of(0, 0, 1), used.row(3));
        due(1, used.follows(0));
        used.plays("v 102");
        due(10, used.about(4));
        due(1, used.learn());
        due(List.of(102), used.marksOfCut(1));
    }

    @Says("HOPELESS stays so till it is undone, gone back from, or told anew")
    static void promise05_toldAnewThereIsHope() {
        Used used = new Used().tells(NO_WAY);
        due(0, used.learn());
        due(1, used.about(6));
        due(2, used.task());
        due(0, used.about(6));
        due(1, used.about(4));
        due(0, used.learn());
    }

    @Says("the sum of WEIGHT times NUMBER is the BOUND or less")
    static void promise05_sumsAtTheBound() {
        due(6, new Used().tells("L19r1+05").about(8));
        due(5, new Used().tells("L19ra-05").about(8));
        due(10, new Used().tells("L19r3+27").about(8));
        due(9, new Used().tells("L19r3+26").about(8));
        due(1, new Used().tells("L19r3+00").about(8));
        due(0, new Used().tells("L19r3-01").about(8));
        due(1, new Used().tells("L19rc-27").about(8));
        due(0, new Used().tells("L19rc-28").about(8));
        due(10, new Used().tells("L19r0+00").about(8));
        due(0, new Used().tells("L19r0-01").about(8));
    }
}
