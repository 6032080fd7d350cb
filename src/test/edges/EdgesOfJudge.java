/** Promise 17: told doings judged. */
final class EdgesOfJudge extends Edges {
    @Says("BAD: n, row (0 or more, 3 n figures at most).")
    static void promise17_nIs1To4() {
        refuses(BAD, Edges::fresh, used -> used.judge(0, 0));
        refuses(BAD, Edges::fresh, used -> used.judge(5, 0));
        refuses(BAD, Edges::busy, used -> used.judge(-1, 400));
        refuses(BAD, Edges::busy, used -> used.judge(LEAST_INT, 400));
        refuses(BAD, Edges::busy, used -> used.judge(MOST_INT, 400));
        due(NONE, new Used().judge(1, 400));
        due(NONE, new Used().judge(4, 400400400400L));
    }

    @Says("row (0 or more, 3 n figures at most)")
    static void promise17_rowIs0OrMore() {
        for (int n = 1; n <= 4; n++) {
            int doings = n;
            due(0, new Used().judge(n, 0));
            refuses(BAD, Edges::fresh, used -> used.judge(doings, -1));
            refuses(BAD, Edges::busy, used -> used.judge(doings, Long.MIN_VALUE));
        }
    }

    @Says("row (0 or more, 3 n figures at most)")
    static void promise17_rowHas3nFiguresAtMost() {
        long end = 1;
        for (int n = 1; n <= 4; n++) {
            int doings = n;
            end *= 1000;
            long above = end;
            due(0, new Used().judge(n, above - 1));
            refuses(BAD, Edges::fresh, used -> used.judge(doings, above));
            refuses(BAD, Edges::fresh, used -> used.judge(doings, above + 400));
            refuses(BAD, Edges::fresh, used -> used.judge(doings, Long.MAX_VALUE));
        }
        // 2 to the 32nd and 400: too long for one doing, though not its lower half.
        due(BAD, new Used().judge(1, (1L << 32) + 400));
        due(BAD, new Used().judge(1, 400400));
        due(BAD, new Used().judge(3, 400400400400L));
    }

    @Says("told as three figures each, the first doing's the highest of row")
    static void promise17_fewerFiguresBeginWithNoughts() {
        Used used = new Used();
        due(NONE, used.judge(1, 400));
        due(0, used.judge(2, 400));
        due(0, used.judge(3, 400400));
        due(0, used.judge(1, 40));
        due(0, used.judge(1, 4));
        due(1, used.judge(2, 400040));
    }

    @Says("the place (from 0) of the first that can not be (or is not so), what is ahead of it being done; NONE: none.")
    static void promise17_thePlaceOfTheFirst() {
        Used used = new Used();
        due(NONE, used.judge(4, 101102103104L));
        due(0, used.judge(4, 100102103104L));
        due(1, used.judge(4, 101101103104L));
        due(2, used.judge(4, 101102102104L));
        due(3, used.judge(4, 101102103103L));
        due(1, used.judge(4, 101800800800L));
        due(NONE, used.judge(1, 101));
        due(NONE, used.judge(2, 101102));
        due(NONE, used.judge(3, 101102103));
    }

    @Says("what is ahead of it being done")
    static void promise17_whatIsAheadIsDone() {
        Used used = new Used().tells(SUM);
        due(NONE, used.judge(4, 103404503612L));
        due(3, used.judge(4, 103404503613L));
        due(2, used.judge(4, 103404504612L));
        due(1, used.judge(4, 103402503612L));
        // Behind x, 1, 3 the mark x, 0, 5 is not so; ahead of it, it can be made.
        due(1, used.judge(2, 203105));
        due(1, used.judge(2, 105203));
        due(NONE, used.judge(1, 105));
        due(NONE, used.judge(1, 203));
    }

    @Says("1, x, k: x, 0, k is MADE; 2, x, k: x, 1, k is MADE")
    static void promise17_makingAtTheEnds() {
        Used used = new Used().plays("003 016");
        due(0, used.judge(1, 103));
        due(NONE, used.judge(1, 104));
        due(NONE, used.judge(1, 106));
        due(0, used.judge(1, 107));
        due(0, used.judge(1, 202));
        due(NONE, used.judge(1, 203));
        due(NONE, used.judge(1, 205));
        due(0, used.judge(1, 206));
        due(0, new Used().judge(1, 100));
        due(NONE, new Used().judge(1, 109));
        due(0, new Used().judge(1, 209));
        due(NONE, new Used().judge(1, 200));
    }

    @Says("UNKNOWN -1 (there is no such NUMBER, RULE, CUT, SLOT)")
    static void promise17_noSuchNumber() {
        Used one = new Used();
        for (int kind : new int[] {100, 200, 500, 600}) {
            for (int x = 1; x <= 9; x++) {
                due(0, one.judge(1, kind + 10 * x));
                due(0, one.judge(1, kind + 10 * x + 5));
            }
        }
        Used four = new Used().tells("L49999");
        due(NONE, four.judge(4, 131231531631L));
        due(0, four.judge(1, 141));
        due(0, four.judge(1, 540));
    }

    @Says("Where something BREAKS no MARK can be MADE")
    static void promise17_noMarkIsMadeWhereSomethingBreaks() {
        Used used = new Used().tells("L3111r1a0+00r110+01");
        due(NONE, used.judge(2, 121101));
        due(1, used.judge(2, 101121));
        due(1, used.judge(2, 101220));
        Used hopeless = new Used();
        hopeless(hopeless);
        due(0, hopeless.judge(1, 111));
    }

    @Says("3, 0, 0: LEARNT")
    static void promise17_learntOnlyFromABreak() {
        Used used = new Used().tells(SMALL);
        due(0, used.judge(1, 300));
        due(NONE, used.judge(2, 101300));
        due(2, used.judge(3, 101300300));
        due(NONE, used.judge(4, 101300701600L));
        due(3, used.judge(4, 101300701601L));
        due(NONE, used.judge(4, 101402300401L));
        Used cut = cutBreaks();
        due(NONE, cut.judge(2, 300702));
        due(NONE, cut.judge(3, 300402611));
    }

    @Says("3, 0, 0: LEARNT")
    static void promise17_learntWithOtherFiguresCanNotBe() {
        Used used = new Used();
        broken(used);
        due(NONE, used.judge(1, 300));
        due(0, used.judge(1, 301));
        due(0, used.judge(1, 310));
        due(0, used.judge(1, 399));
    }

    @Says("LATE: nothing BREAKS, or it is HOPELESS.")
    static void promise17_learntOnceWithoutHope() {
        Used used = new Used().tells(NO_WAY);
        due(NONE, used.judge(1, 300));
        due(1, used.judge(2, 300300));
        due(NONE, used.judge(3, 300700401));
        due(0, used.about(6));
        due(0, used.learn());
        due(0, used.judge(1, 300));
    }

    @Says("4, two figures: so many MARKS are on THE TRAIL")
    static void promise17_noMarksAnd36() {
        Used used = new Used().tells("L49999");
        due(NONE, used.judge(1, 400));
        due(0, used.judge(1, 401));
        due(0, used.judge(1, 499));
        for (int x = 0; x < 4; x++) {
            for (int k = 1; k <= 9; k++) {
                used.make(x, 0, k);
            }
        }
        due(NONE, used.judge(1, 436));
        due(0, used.judge(1, 435));
        due(0, used.judge(1, 437));
        due(0, used.judge(1, 406));
        due(0, used.judge(1, 430));
    }

    @Says("5, x, k: LOW of x is k; 6, x, k: HIGH of x is k")
    static void promise17_lowAndHighAreJustSo() {
        Used used = new Used().tells("L49999").plays("303 316");
        due(NONE, used.judge(2, 533636));
        due(0, used.judge(1, 532));
        due(0, used.judge(1, 534));
        due(0, used.judge(1, 635));
        due(0, used.judge(1, 637));
        due(NONE, used.judge(2, 500609));
        due(0, used.judge(1, 501));
        due(0, used.judge(1, 608));
    }

    @Says("7, two figures: so many CUTS there are")
    static void promise17_noCutsAnd40() {
        Used none = new Used();
        due(NONE, none.judge(1, 700));
        due(0, none.judge(1, 701));
        Used forty = fortyCuts();
        due(NONE, forty.judge(1, 740));
        due(0, forty.judge(1, 739));
        due(0, forty.judge(1, 741));
        due(NONE, forty.judge(2, 300740));
        due(0, forty.judge(1, 704));
    }

    @Says("1 .. 3 are done, 4 .. 7 asked.")
    static void promise17_thereIsNoOtherDoing() {
        Used used = new Used();
        for (int figures : new int[] {0, 1, 9, 10, 99, 800, 801, 899, 900, 999}) {
            due(0, used.judge(1, figures));
        }
        due(1, used.judge(2, 400800));
    }

    @Says("In what follows nothing is changed.")
    static void promise17_nothingIsChanged() {
        leavesAll(Edges::busy, used -> used.judge(4, 121400500600L));
        leavesAll(Edges::busy, used -> used.judge(4, 230210500600L));
        leavesAll(Edges::broken, used -> used.judge(2, 300701));
        leavesAll(used -> used.tells(NO_WAY), used -> used.judge(2, 300300));
        leavesAll(Edges::full, used -> used.judge(2, 119209));
        Used forty = fortyCuts();
        int first = forty.cut(0, 0);
        due(NONE, forty.judge(1, 300));
        due(first, forty.cut(0, 0));
        due(1, forty.about(4));
        due(2, forty.about(10));
    }
}
