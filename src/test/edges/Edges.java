import java.util.List;

/** What the tests of edges share: the answers that are due, tasks and runs with known answers. */
class Edges {
    static final int UNKNOWN = -1;
    static final int BAD = -2;
    static final int LATE = -3;
    static final int FULL = -4;
    static final int NONE = -9;
    static final int MADE = -1;
    static final int LEAST_INT = Integer.MIN_VALUE;
    static final int MOST_INT = Integer.MAX_VALUE;

    /** x and y 0 .. 9, 5 or less together: both are drawn in to 5. */
    static final String SUM = "L299r11+05";
    /** x is y or less, both are 1 or less together: x, 0, 1 breaks rule 1. */
    static final String SMALL = "L211r1a+00r11+01";
    /** x is 0 or less and 1 or more. */
    static final String NO_WAY = "L19r1+00ra-01";
    /** x + y is z + 1 or less, x + y + z is 2 or less; the fourth number is in no rule. */
    static final String TWO = "L41111r11a0+01r1110+02";
    /** x + 3 y + 2 z is 6 or less, 2 y is x + 2 z or less: see cutBreaks. */
    static final String THREE = "L3132r132+06ra2b+00";
    /** Twice a difference is to be 1: bounds alone hardly tell that it can not be. */
    static final String MANY = "L46667r2b2b+01rb2b2-01";

    /** A cut of six marks can be learnt from it: by 012 201 211 311. */
    static final String SIX_MARKS = "L44323r1ba1-04rb23c+00";

    /** All 36 marks that there can be are drawn in at once, and all is solved. */
    static final String ALL_DRAWN = "L49999ra111+01r0b01-02rbb3a-03r001a-01r01c2+02ra3ac+03";
    /** All 36 marks are drawn in at once, and rule 2 breaks. */
    static final String ALL_BROKEN = "L49999r33c0-00rb002-01r002b+01r0b02+04";
    /** Weights and tops that are all of their own. */
    static final String[] MIXED = {
        "L43579r123a+07rb0c3+02r3a2b-05", "L47531rab12+05r21cb+09", "L42468r0101+09rc21a+03r12b3+10r1a1a+00",
        "L3359r1b2+04rc2a+03", "L295r3b+07ra2+03", "L12r3+05rb-01"};

    static int wrong = 0;
    static String test = "";

    /** Steps that come ahead of what is tested. */
    interface Steps {
        void on(Used used);
    }

    interface Call {
        long on(Used used);
    }

    static void due(long want, long got) {
        same(String.valueOf(want), String.valueOf(got));
    }

    static void due(List<Integer> want, List<Integer> got) {
        same(want.toString(), got.toString());
    }

    static void same(String want, String got) {
        if (!want.equals(got)) {
            wrong++;
            String calls = Used.last == null ? "" : Used.last.toldBack();
            System.out.println(test + ": " + calls + " answered " + got + ", due is " + want);
        }
    }

    /** The call answers the refusal, and all is as it was. */
    static void refuses(long refusal, Steps ahead, Call call) {
        for (Views view : Views.values()) {
            Used refused = new Used();
            ahead.on(refused);
            due(refusal, call.on(refused));
            Used plain = new Used();
            ahead.on(plain);
            String want = view.of(plain);
            same(want, view.of(refused));
        }
    }

    /** Whatever the call answers, all is as it was. */
    static void leavesAll(Steps ahead, Call call) {
        for (Views view : Views.values()) {
            Used asked = new Used();
            ahead.on(asked);
            call.on(asked);
            Used plain = new Used();
            ahead.on(plain);
            String want = view.of(plain);
            same(want, view.of(asked));
        }
    }

    // ---- states that calls are refused in

    static void fresh(Used used) {
        due(1, used.about(0));
    }

    /** Something of each kind: a cut, acts, both slots, seen, a seed, a text that is no task. */
    static void busy(Used used) {
        used.tells(TWO);
        used.keep(0);
        used.see(0, 0, 1, 1);
        used.see(1, 1, 0, 0);
        used.seed(77);
        used.plays("001 301 101 l");
        used.keep(1);
        used.make(2, 0, 1);
        used.write('x');
        due(5, used.about(10));
        due(1, used.about(5));
    }

    /** Rule 1 breaks at level 1. */
    static void broken(Used used) {
        used.tells(SMALL);
        used.keep(1);
        used.seed(5);
        used.make(0, 0, 1);
        due(1, used.about(4));
    }

    /** There is no hope; y could still be anything. */
    static void hopeless(Used used) {
        used.tells("L299r10+00ra0-01");
        used.keep(0);
        due(0, used.learn());
        due(1, used.about(6));
    }

    /** 60 letters, 6 seen, 14 acts, both slots. */
    static void full(Used used) {
        used.tells("L299");
        used.keep(0);
        used.plays("001 002 003 004 005 006 007 008 101 102 103 104 105 106 107");
        used.keep(1);
        for (int k = 1; k <= 6; k++) {
            used.see(0, 0, k, 1);
        }
        used.writes("r".repeat(56));
        due(14, used.about(10));
        due(6, used.about(11));
        due(60, used.about(12));
    }

    /** A cut of x, 1, 0 and y, 0, 2 breaks, and no rule does. */
    static Used cutBreaks() {
        Used used = new Used().tells(THREE).plays("010 102 l v 102");
        due(10, used.about(4));
        return used;
    }

    static boolean isSo(Used used, int mark) {
        int bound = used.number(mark / 100, mark / 10 % 10);
        return mark / 10 % 10 == 0 ? mark % 10 <= bound : mark % 10 >= bound;
    }

    static boolean isNotSo(Used used, int mark) {
        int side = mark / 10 % 10;
        int bound = used.number(mark / 100, 1 - side);
        return side == 0 ? mark % 10 > bound : mark % 10 < bound;
    }

    /** 40 cuts are learnt, and rule 1 breaks at level 1. */
    static Used fortyCuts() {
        Used used = new Used().tells(MANY);
        due(50, used.run(50));
        due(31, used.run(31));
        due(40, used.about(5));
        due(1, used.about(4));
        return used;
    }

    /** 40 cuts are learnt, the first six and eleven others are reasons, all 36 marks are on the trail, rule 1 breaks. */
    static Used fortyCutsAllMarks() {
        Used used = new Used().tells("L49999r2b2b+03rb2b2-03");
        due(50, used.run(50));
        due(50, used.run(50));
        due(50, used.run(50));
        due(41, used.run(41));
        due(0, used.leave());
        due(36, used.make(1, 0, 9));
        due(40, used.about(5));
        due(1, used.about(4));
        return used;
    }
}
