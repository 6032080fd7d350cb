/** Promises 18 to 20: what was seen of an unknown way. */
final class EdgesOfSeen extends Edges {
    // ---- promise 18: see

    @Says("UNKNOWN: x; BAD: side, k, was (0, 1); FULL: 6.")
    static void promise18_noSuchNumber() {
        refuses(UNKNOWN, Edges::fresh, used -> used.see(-1, 0, 1, 1));
        refuses(UNKNOWN, Edges::fresh, used -> used.see(1, 0, 1, 1));
        refuses(UNKNOWN, Edges::busy, used -> used.see(4, 0, 1, 1));
        refuses(UNKNOWN, Edges::busy, used -> used.see(LEAST_INT, 0, 1, 1));
        refuses(UNKNOWN, Edges::busy, used -> used.see(MOST_INT, 0, 1, 1));
        due(1, new Used().tells("L40000").see(3, 0, 1, 1));
    }

    @Says("BAD: side, k, was (0, 1)")
    static void promise18_theSideIs0Or1() {
        refuses(BAD, Edges::fresh, used -> used.see(0, -1, 1, 1));
        refuses(BAD, Edges::fresh, used -> used.see(0, 2, 1, 1));
        refuses(BAD, Edges::busy, used -> used.see(3, LEAST_INT, 1, 0));
        refuses(BAD, Edges::busy, used -> used.see(3, MOST_INT, 1, 0));
        Used used = new Used();
        due(1, used.see(0, 0, 5, 1));
        due(2, used.see(0, 1, 5, 1));
        due(1, used.which());
    }

    @Says("BAD: side, k, was (0, 1)")
    static void promise18_kIs0To9() {
        refuses(BAD, Edges::fresh, used -> used.see(0, 0, -1, 1));
        refuses(BAD, Edges::fresh, used -> used.see(0, 1, 10, 1));
        refuses(BAD, Edges::busy, used -> used.see(3, 0, LEAST_INT, 0));
        refuses(BAD, Edges::busy, used -> used.see(3, 0, MOST_INT, 0));
        Used used = new Used();
        due(1, used.see(0, 0, 0, 1));
        due(2, used.see(0, 1, 9, 1));
        due(10, used.which());
        // Above the top it can be seen, too.
        Used low = new Used().tells("L13");
        due(1, low.see(0, 0, 9, 0));
        due(4, low.which());
    }

    @Says("SEEN: that of an unknown WAY a MARK was so (1), or not (0)")
    static void promise18_wasIs0Or1() {
        refuses(BAD, Edges::fresh, used -> used.see(0, 0, 1, -1));
        refuses(BAD, Edges::fresh, used -> used.see(0, 0, 1, 2));
        refuses(BAD, Edges::busy, used -> used.see(3, 0, 1, LEAST_INT));
        refuses(BAD, Edges::busy, used -> used.see(3, 0, 1, MOST_INT));
        Used was = new Used();
        due(1, was.see(0, 0, 3, 1));
        due(7, was.which());
        Used not = new Used();
        due(1, not.see(0, 0, 3, 0));
        due(3, not.which());
    }

    @Says("never more than 6")
    static void promise18_sixAreTakenTheSeventhIsRefused() {
        Used used = new Used();
        for (int i = 1; i <= 6; i++) {
            due(i, used.see(0, 0, i, 1));
        }
        due(4, used.which());
        due(FULL, used.see(0, 0, 9, 1));
        due(6, used.about(11));
        due(4, used.which());
        refuses(FULL, Edges::full, again -> again.see(0, 0, 9, 1));
        refuses(FULL, Edges::full, again -> again.see(1, 1, 0, 0));
    }

    @Says("of several the first that a call names (in just that row)")
    static void promise18_theFirstRefusal() {
        refuses(UNKNOWN, Edges::full, used -> used.see(2, 0, 1, 1));
        refuses(UNKNOWN, Edges::full, used -> used.see(-1, 2, 10, 2));
        refuses(UNKNOWN, Edges::fresh, used -> used.see(1, 2, 1, 1));
        refuses(BAD, Edges::full, used -> used.see(0, 2, 1, 1));
        refuses(BAD, Edges::full, used -> used.see(0, 0, 10, 1));
        refuses(BAD, Edges::full, used -> used.see(0, 0, 1, 2));
    }

    @Says("SEEN: how many there are.")
    static void promise18_theSameTwiceCountsTwice() {
        Used used = new Used();
        due(1, used.see(0, 0, 5, 1));
        due(2, used.see(0, 0, 5, 1));
        due(5, used.which());
        // What was seen can stand against itself: then there is no way.
        due(3, used.see(0, 0, 5, 0));
        due(0, used.which());
    }

    @Says("SEEN: how many there are.")
    static void promise18_theTrailStays() {
        Used used = new Used();
        broken(used);
        due(1, used.see(0, 0, 1, 1));
        due(2, used.about(2));
        due(1, used.about(4));
        due(1, used.about(10));
    }

    // ---- promise 19: unsee

    @Says("Nothing is SEEN: how much there was.")
    static void promise19_ofNothing() {
        Used used = new Used();
        due(0, used.unsee());
        due(0, used.unsee());
        due(0, used.about(11));
    }

    @Says("Nothing is SEEN: how much there was.")
    static void promise19_ofOneAndOfSix() {
        Used used = new Used();
        used.see(0, 0, 5, 1);
        due(1, used.unsee());
        due(0, used.about(11));
        due(10, used.which());
        for (int i = 1; i <= 6; i++) {
            used.see(0, 1, 9 - i, 1);
        }
        due(4, used.which());
        due(6, used.unsee());
        due(0, used.unsee());
        due(10, used.which());
        due(1, used.see(0, 0, 9, 1));
        due(1, used.which());
    }

    // ---- promise 20: which

    @Says("WHICH: WAYS by which all that is SEEN is so: how many.")
    static void promise20_byNothingSeenAllWays() {
        due(10, new Used().which());
        due(10000, new Used().tells("L49999").which());
        due(21, new Used().tells(SUM).which());
        due(0, new Used().tells(NO_WAY).which());
        Used trail = new Used().tells(SUM);
        trail.make(0, 0, 5);
        due(21, trail.which());
    }

    private static int ways(int side, int k, int was) {
        Used used = new Used();
        used.see(0, side, k, was);
        return used.which();
    }

    @Says("by SIDE 0 x is k or more, by SIDE 1 x is k or less")
    static void promise20_theEndsOfK() {
        due(10, ways(0, 0, 1));
        due(0, ways(0, 0, 0));
        due(9, ways(0, 1, 1));
        due(1, ways(0, 1, 0));
        due(1, ways(0, 9, 1));
        due(9, ways(0, 9, 0));
        due(1, ways(1, 0, 1));
        due(9, ways(1, 0, 0));
        due(9, ways(1, 8, 1));
        due(1, ways(1, 8, 0));
        due(10, ways(1, 9, 1));
        due(0, ways(1, 9, 0));
    }

    @Says("(of NUMBERS that there are not any more nothing is looked at)")
    static void promise20_numbersThatThereAreNotAnyMore() {
        Used used = new Used().tells("L49999");
        used.see(3, 0, 9, 1);
        used.see(1, 1, 4, 1);
        due(100 * 5, used.which());
        used.tells("L3999");
        due(100 * 5, used.which());
        used.tells("L299");
        due(10 * 5, used.which());
        used.tells("L19");
        due(10, used.which());
        due(2, used.about(11));
        used.tells("L49999");
        due(100 * 5, used.which());
    }

    @Says("(of NUMBERS that there are not any more nothing is looked at)")
    static void promise20_norAtWhatCouldNeverHaveBeen() {
        Used used = new Used().tells("L49999");
        used.see(3, 0, 0, 0);
        used.see(2, 1, 9, 0);
        used.see(1, 0, 0, 0);
        due(0, used.which());
        due(0, used.tells("L3999").which());
        due(0, used.tells("L299").which());
        due(10, used.tells("L19").which());
        due(3, used.about(11));
    }

    @Says("SEEN: that of an unknown WAY a MARK was so (1), or not (0)")
    static void promise20_ofEachNumber() {
        for (int x = 0; x < 4; x++) {
            for (int k = 0; k <= 9; k++) {
                Used used = new Used().tells("L49753");
                int values = used.number(x, 2) + 1;
                int others = used.about(8) / values;
                used.see(x, 0, k, 1);
                due(others * Math.max(0, values - k), used.which());
                used.unsee();
                used.see(x, 1, k, 1);
                due(others * Math.min(values, k + 1), used.which());
                used.see(x, 0, k, 1);
                due(k < values ? others : 0, used.which());
            }
        }
    }

    @Says("WHICH: WAYS by which all that is SEEN is so: how many.")
    static void promise20_aTopBelowWhatWasSeen() {
        Used used = new Used();
        used.see(0, 0, 7, 1);
        due(3, used.which());
        due(0, used.tells("L16").which());
        due(1, used.tells("L17").which());
        due(0, used.tells("L19r1+06").which());
        due(1, used.tells("L19r1+07").which());
    }

    @Says("In what follows nothing is changed.")
    static void promise20_nothingIsChanged() {
        leavesAll(Edges::busy, Used::which);
        leavesAll(Edges::full, Used::which);
    }
}
