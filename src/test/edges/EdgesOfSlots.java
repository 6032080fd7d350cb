import java.util.List;

/** Promises 25 and 26: what is kept and gone on from. */
final class EdgesOfSlots extends Edges {
    // ---- promise 25: keep

    @Says("SLOTS 0 .. 1 keep THE TRAIL, CUTS, whether THE TASK is HOPELESS")
    static void promise25_noSuchSlot() {
        refuses(UNKNOWN, Edges::fresh, used -> used.keep(-1));
        refuses(UNKNOWN, Edges::fresh, used -> used.keep(2));
        refuses(UNKNOWN, Edges::busy, used -> used.keep(-1));
        refuses(UNKNOWN, Edges::busy, used -> used.keep(2));
        refuses(UNKNOWN, Edges::busy, used -> used.keep(LEAST_INT));
        refuses(UNKNOWN, Edges::busy, used -> used.keep(MOST_INT));
        due(0, new Used().keep(0));
        due(0, new Used().keep(1));
    }

    @Says("They are kept: MARKS on THE TRAIL.")
    static void promise25_noMarksAnd36() {
        Used used = new Used().tells("L49999");
        due(0, used.keep(0));
        for (int x = 0; x < 4; x++) {
            for (int k = 1; k <= 9; k++) {
                used.make(x, 0, k);
            }
        }
        due(36, used.keep(1));
        due(0, used.again(0));
        due(36, used.again(1));
        due(36, used.about(3));
        due(309, used.mark(35, 0));
    }

    @Says("They are kept: MARKS on THE TRAIL.")
    static void promise25_overWhatWasKept() {
        Used used = new Used().tells(SUM);
        due(2, used.keep(0));
        used.make(0, 0, 3);
        due(4, used.keep(0));
        used.leave();
        due(4, used.again(0));
        due(3, used.number(0, 0));
        due(LATE, used.again(1));
    }

    @Says("(no ACTS when one goes on)")
    static void promise25_keepingItselfTakesNoAct() {
        Used used = new Used().tells(SUM).plays("001 002");
        due(6, used.keep(0));
        due(2, used.about(10));
        due(1, used.undo());
        due(1, used.number(0, 0));
    }

    @Says("They are kept: MARKS on THE TRAIL.")
    static void promise25_whereSomethingBreaks() {
        Used used = new Used();
        broken(used);
        due(2, used.keep(0));
        due(1, used.learn());
        due(2, used.again(0));
        due(1, used.about(4));
        due(0, used.about(5));
        due(1, used.about(3));
        due(1, used.learn());
    }

    // ---- promise 26: again

    @Says("UNKNOWN; LATE: none were kept.")
    static void promise26_noSuchSlot() {
        refuses(UNKNOWN, Edges::busy, used -> used.again(-1));
        refuses(UNKNOWN, Edges::busy, used -> used.again(2));
        refuses(UNKNOWN, Edges::busy, used -> used.again(LEAST_INT));
        refuses(UNKNOWN, Edges::busy, used -> used.again(MOST_INT));
    }

    @Says("UNKNOWN; LATE: none were kept.")
    static void promise26_noneWereKept() {
        refuses(LATE, Edges::fresh, used -> used.again(0));
        refuses(LATE, Edges::fresh, used -> used.again(1));
        refuses(LATE, Edges::broken, used -> used.again(0));
        refuses(LATE, Edges::hopeless, used -> used.again(1));
        refuses(LATE, used -> keptAheadOfATask(used), used -> used.again(0));
        refuses(LATE, used -> keptAheadOfATask(used), used -> used.again(1));
    }

    private static void keptAheadOfATask(Used used) {
        busy(used);
        used.tells(SUM);
        used.make(0, 0, 1);
    }

    @Says("of several the first that a call names (in just that row)")
    static void promise26_unknownComesAheadOfLate() {
        refuses(UNKNOWN, Edges::fresh, used -> used.again(-1));
        refuses(UNKNOWN, Edges::fresh, used -> used.again(2));
    }

    @Says("a task() that is LATE changes nothing")
    static void promise26_aLateTaskLeavesWhatWasKept() {
        Used used = new Used();
        busy(used);
        due(LATE, used.task());
        due(0, used.again(0));
        due(2, used.again(1));
    }

    @Says("They are as they were kept: MARKS on THE TRAIL.")
    static void promise26_theTwoSlotsAreApart() {
        Used used = new Used();
        busy(used);
        due(0, used.again(0));
        due(0, used.about(5));
        due(List.of(), used.marks());
        due(2, used.again(1));
        due(1, used.about(5));
        due(List.of(1, 110), used.marks());
        due(List.of(-1, 10), used.row(2));
        due(List.of(1, 101), used.marksOfCut(0));
        due(1, used.about(3));
    }

    @Says("They are as they were kept: MARKS on THE TRAIL.")
    static void promise26_asOftenAsOneLikes() {
        Used used = new Used().tells(SUM).plays("001");
        due(4, used.keep(0));
        for (int i = 0; i < 3; i++) {
            used.make(0, 0, 2);
            used.make(1, 0, 1);
            due(4, used.again(0));
            due(List.of(15, 115, 1, 114), used.marks());
            due(List.of(0, 0, 1, 1), used.row(1));
            used.leave();
            used.make(0, 1, 0);
            due(4, used.again(0));
            due(1, used.number(0, 0));
        }
    }

    @Says("(no ACTS when one goes on)")
    static void promise26_noActs() {
        Used used = new Used().tells(SUM).plays("001 002");
        used.keep(0);
        due(2, used.about(10));
        due(6, used.again(0));
        due(0, used.about(10));
        due(LATE, used.undo());
        used.make(0, 0, 3);
        due(1, used.about(10));
        due(0, used.undo());
        due(2, used.number(0, 0));
        due(LATE, used.undo());
    }

    @Says("HOPELESS stays so till it is undone, gone back from, or told anew")
    static void promise26_hopelessIsKeptAndGoneBackFrom() {
        Used used = new Used();
        hopeless(used);
        used.keep(1);
        used.again(0);
        due(0, used.about(6));
        due(1, used.about(4));
        used.again(1);
        due(1, used.about(6));
        due(LATE, used.learn());
        due(0, used.run(1));
        used.again(0);
        due(0, used.learn());
    }

    @Says("THE TEXT, SEEN, THE SEED, RULES, TOPS are not undone or kept")
    static void promise26_whatIsNotKept() {
        Used used = new Used().tells(SUM);
        used.keep(0);
        used.see(0, 0, 1, 1);
        used.seed(8);
        used.write('x');
        due(2, used.again(0));
        due(1, used.about(11));
        due(8, used.seed(0));
        due(11, used.about(12));
        due(1, used.about(1));
        due(9, used.number(1, 2));
    }

    @Says("SLOTS 0 .. 1 keep THE TRAIL, CUTS, whether THE TASK is HOPELESS")
    static void promise26_fortyCutsAreKept() {
        Used used = fortyCuts();
        List<Integer> first = used.marksOfCut(0);
        List<Integer> last = used.marksOfCut(39);
        List<Integer> reasons = used.row(2);
        int marks = used.keep(1);
        used.run(13);
        due(0, first.equals(used.marksOfCut(0)) ? 1 : 0);
        due(marks, used.again(1));
        due(40, used.about(5));
        due(first, used.marksOfCut(0));
        due(last, used.marksOfCut(39));
        due(reasons, used.row(2));
        due(1, used.about(4));
        // It goes on from there as it would have.
        due(13, used.run(13));
        due(0, used.about(6));
        due(1, used.run(50));
        due(1, used.about(6));
    }
}
