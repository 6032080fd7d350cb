/** Each promise of the document by itself: ordinary calls, its edges, wrong arguments. */
public final class PromiseTests {
    private static int wrong = 0;
    private static int promise = 0;

    private static void due(String call, long got, long want) {
        if (got != want) {
            wrong++;
            System.out.println("promise " + promise + ": " + call + " answered " + got + ", due is " + want);
        }
    }

    public static void main(String[] args) {
        newObject();
        write();
        wipe();
        fault();
        task();
        taskDrawsIn();
        about();
        aboutWhenBroken();
        number();
        rule();
        mark();
        markByCut();
        cut();
        follows();
        make();
        makeWhenLate();
        learn();
        learnToTheOneMark();
        learnWithoutHope();
        leave();
        run();
        undo();
        undoRow();
        judge();
        judgeLearnt();
        see();
        unsee();
        which();
        share();
        chance();
        seed();
        drawn();
        drawnLearns();
        keep();
        again();
        System.out.println(wrong == 0 ? "all answers are as due" : wrong + " answers are not as due");
        if (wrong != 0) {
            System.exit(1);
        }
    }

    private static void put(CutTrail trail, String text) {
        trail.wipe();
        for (char letter : text.toCharArray()) {
            trail.write(letter);
        }
    }

    private static CutTrail told(String text) {
        CutTrail trail = new CutTrail();
        put(trail, text);
        due("fault() of " + text, trail.fault(), -9);
        due("task() of " + text, trail.task() < 0 ? 1 : 0, 0);
        return trail;
    }

    /** x less y is 0 or less, x and y are 1 or less together: x, 0, 1 breaks rule 1. */
    private static CutTrail smallBreak() {
        CutTrail trail = told("L211r1a+00r11+01");
        trail.make(0, 0, 1);
        return trail;
    }

    /** x is 0 or less, and 1 or more. */
    private static CutTrail noWay() {
        return told("L19r1+00ra-01");
    }

    private static void newObject() {
        promise = 1;
        CutTrail trail = new CutTrail();
        due("about(0)", trail.about(0), 1);
        for (int what : new int[] {1, 2, 3, 5, 6, 7, 10, 11, 12}) {
            due("about(" + what + ")", trail.about(what), 0);
        }
        due("about(4)", trail.about(4), -9);
        due("about(8)", trail.about(8), 10);
        due("about(9)", trail.about(9), 10);
        due("number(0, 2)", trail.number(0, 2), 9);
        due("seed(1)", trail.seed(1), 0);
        due("again(1)", trail.again(1), -3);
        due("a second object", new CutTrail().seed(0), 0);
    }

    private static void write() {
        promise = 2;
        CutTrail trail = new CutTrail();
        due("write(-1)", trail.write(-1), -2);
        due("write(256)", trail.write(256), -2);
        due("write(least)", trail.write(Integer.MIN_VALUE), -2);
        due("write(most)", trail.write(Integer.MAX_VALUE), -2);
        due("write(0)", trail.write(0), 1);
        due("write(255)", trail.write(255), 2);
        for (int i = 3; i <= 60; i++) {
            due("write(76)", trail.write(76), i);
        }
        due("write(76) behind 60", trail.write(76), -4);
        due("write(256) behind 60", trail.write(256), -2);
        due("about(12)", trail.about(12), 60);
        due("fault()", trail.fault(), 0);
    }

    private static void wipe() {
        promise = 3;
        CutTrail trail = told("L19r1+05");
        due("wipe()", trail.wipe(), 8);
        due("wipe() again", trail.wipe(), 0);
        due("about(12)", trail.about(12), 0);
        due("about(1): the task stays", trail.about(1), 1);
        due("write(76)", trail.write('L'), 1);
    }

    private static void faultOf(String text, int want) {
        CutTrail trail = new CutTrail();
        put(trail, text);
        due("fault() of " + text, trail.fault(), want);
        due("task() of " + text, trail.task() == -3 ? 1 : 0, want == -9 ? 0 : 1);
    }

    private static void fault() {
        promise = 4;
        faultOf("", 0);
        faultOf("l", 0);
        faultOf("L", 1);
        faultOf("L0", 1);
        faultOf("L5", 1);
        faultOf("L4", 2);
        faultOf("L1a", 2);
        faultOf("L10", -9);
        faultOf("L2", 2);
        faultOf("L20", 3);
        faultOf("L209", -9);
        faultOf("L2099", 4);
        faultOf("L209R", 4);
        faultOf("L209r", 5);
        faultOf("L209r4", 5);
        faultOf("L209rd", 5);
        faultOf("L209rA", 5);
        faultOf("L209r3c", 7);
        faultOf("L209r3cc", 7);
        faultOf("L209r3c0", 7);
        faultOf("L209r3c+", 8);
        faultOf("L209r3c+4", 8);
        faultOf("L209r3c+a", 8);
        faultOf("L209r3c-3", 9);
        faultOf("L209r3c-31", 9);
        faultOf("L209r3c-30", -9);
        faultOf("L209r3c+00", -9);
        faultOf("L209r3c-00", -9);
        faultOf("L209r3c+29", -9);
        faultOf("L209r3c+2a", 9);
        faultOf("L209r3c+29 ", 10);
        faultOf("L209r3c+29r", 11);
        faultOf("L19" + "r1+30".repeat(6), -9);
        faultOf("L19" + "r1+30".repeat(6) + "r", 33);
        faultOf("L49999" + "r0123-09".repeat(6), -9);
        faultOf("L49999" + "r0123-09".repeat(6) + "r01230", 54);
        faultOf("L49999" + "r0123-09".repeat(5) + "r0123-0", 53);
        faultOf("L" + (char) 178 + "9", 1);
        CutTrail trail = told("L19");
        trail.write('x');
        due("fault() of a spoilt text", trail.fault(), 3);
        due("task() of a spoilt text", trail.task(), -3);
        due("about(0)", trail.about(0), 1);
    }

    private static void task() {
        promise = 5;
        CutTrail trail = new CutTrail();
        due("task() of nothing", trail.task(), -3);
        put(trail, "L3123");
        due("task() without rules", trail.task(), 0);
        due("about(8)", trail.about(8), 2 * 3 * 4);
        trail.make(0, 0, 1);
        trail.see(2, 0, 2, 1);
        trail.seed(77);
        trail.keep(0);
        trail.keep(1);
        due("about(10)", trail.about(10), 1);
        put(trail, "L3123r1");
        due("task() of a fault", trail.task(), -3);
        due("about(10) behind a late task", trail.about(10), 1);
        due("again(1) behind a late task", trail.again(1), 1);
        trail.make(1, 0, 1);
        put(trail, "L299r11+05ra0-01");
        due("task() with rules", trail.task(), 2);
        due("about(10): no acts", trail.about(10), 0);
        due("undo()", trail.undo(), -3);
        due("again(0): gone", trail.again(0), -3);
        due("again(1): gone", trail.again(1), -3);
        due("about(11): seen stays", trail.about(11), 1);
        due("about(12): the text stays", trail.about(12), 16);
        due("seed(0) stays", trail.seed(0), 77);
        due("number(1, 2)", trail.number(1, 2), 9);
        due("number(2, 2)", trail.number(2, 2), -1);
        due("task() again", trail.task(), 2);
        CutTrail learnt = smallBreak();
        learnt.learn();
        due("about(5)", learnt.about(5), 1);
        learnt.task();
        due("about(5): no cuts", learnt.about(5), 0);
        CutTrail hopeless = noWay();
        hopeless.learn();
        due("about(6)", hopeless.about(6), 1);
        hopeless.task();
        due("about(6): told anew", hopeless.about(6), 0);
    }

    private static void taskDrawsIn() {
        CutTrail trail = told("L299r11+05ra0-01");
        // Rule 0 tells x, 1, 5 and y, 1, 5; rule 1 then x, 0, 1; rule 0 y, 1, 4.
        due("about(2)", trail.about(2), 4);
        due("about(3)", trail.about(3), 0);
        due("mark(0, 0)", trail.mark(0, 0), 15);
        due("mark(1, 0)", trail.mark(1, 0), 115);
        due("mark(2, 0)", trail.mark(2, 0), 1);
        due("mark(2, 2)", trail.mark(2, 2), 1);
        due("mark(3, 0)", trail.mark(3, 0), 114);
        due("mark(3, 1)", trail.mark(3, 1), 0);
        due("mark(3, 2)", trail.mark(3, 2), 0);
        due("mark(3, 3)", trail.mark(3, 3), 1);
        due("leave()", trail.leave(), -3);
        CutTrail both = told("L222rb1-03");
        // By -2 x + y at most -3: x, 0, 2; then y, 1, 1.
        due("mark(0, 0)", both.mark(0, 0), 2);
        due("mark(1, 0)", both.mark(1, 0), 111);
        due("about(2)", both.about(2), 2);
    }

    private static void about() {
        promise = 6;
        CutTrail trail = told("L299r11+05");
        trail.make(0, 0, 3);
        due("about(0)", trail.about(0), 2);
        due("about(1)", trail.about(1), 1);
        due("about(2)", trail.about(2), 4);
        due("about(3)", trail.about(3), 1);
        due("about(4)", trail.about(4), -9);
        due("about(5)", trail.about(5), 0);
        due("about(6)", trail.about(6), 0);
        due("about(7)", trail.about(7), 0);
        due("about(8)", trail.about(8), 21);
        due("about(9)", trail.about(9), 6);
        due("about(10)", trail.about(10), 1);
        trail.see(0, 0, 1, 1);
        due("about(11)", trail.about(11), 1);
        due("about(12)", trail.about(12), 10);
        due("about(13)", trail.about(13), -2);
        due("about(-1)", trail.about(-1), -2);
        due("about(least)", trail.about(Integer.MIN_VALUE), -2);
        trail.make(0, 0, 5);
        due("about(7): solved", trail.about(7), 1);
        due("about(9): the one way", trail.about(9), 1);
        due("about(8) of all values", told("L49999").about(8), 10000);
        due("about(7) of one value", told("L10").about(7), 1);
        due("about(8) of one value", told("L10").about(8), 1);
    }

    private static void aboutWhenBroken() {
        CutTrail trail = smallBreak();
        due("about(4): a rule", trail.about(4), 1);
        due("about(7): it breaks", trail.about(7), 0);
        due("about(9)", trail.about(9), 0);
        due("about(8)", trail.about(8), 2);
        CutTrail hopeless = noWay();
        due("about(4)", hopeless.about(4), 1);
        due("about(6)", hopeless.about(6), 0);
        due("learn()", hopeless.learn(), 0);
        due("about(6)", hopeless.about(6), 1);
        due("about(4): still there", hopeless.about(4), 1);
        due("about(7)", hopeless.about(7), 0);
        due("about(8)", hopeless.about(8), 0);
    }

    private static void number() {
        promise = 7;
        CutTrail trail = told("L299ra0-02r11+07");
        trail.make(1, 0, 2);
        due("number(0, 0)", trail.number(0, 0), 2);
        due("number(0, 1)", trail.number(0, 1), 5);
        due("number(0, 2)", trail.number(0, 2), 9);
        due("number(0, 3)", trail.number(0, 3), 2);
        due("number(1, 0)", trail.number(1, 0), 2);
        due("number(1, 1)", trail.number(1, 1), 5);
        due("number(1, 3): the trail set aside", trail.number(1, 3), 0);
        due("number(0, 4)", trail.number(0, 4), -2);
        due("number(0, -1)", trail.number(0, -1), -2);
        due("number(2, 0)", trail.number(2, 0), -1);
        due("number(2, 9)", trail.number(2, 9), -1);
        due("number(-1, 0)", trail.number(-1, 0), -1);
        due("number(0, 3) without ways", noWay().number(0, 3), -9);
        // Not told by bounds alone: x and y the same, and 5 or more together.
        CutTrail same = told("L49999r1a00+00ra100+00raa00-05");
        due("number(0, 3)", same.number(0, 3), 3);
        due("number(3, 3)", same.number(3, 3), 0);
        due("number(3, 3) of the last number", told("L49999r000a-07").number(3, 3), 7);
    }

    private static void rule() {
        promise = 8;
        CutTrail trail = told("L3999rc03+30r1a0-00r120+05");
        due("rule(0, 0)", trail.rule(0, 0), 7);
        due("rule(0, 1)", trail.rule(0, 1), 10);
        due("rule(0, 2)", trail.rule(0, 2), 13);
        due("rule(0, 3)", trail.rule(0, 3), -2);
        due("rule(0, 4)", trail.rule(0, 4), 130);
        due("rule(1, 4): -00", trail.rule(1, 4), 100);
        due("rule(1, 0)", trail.rule(1, 0), 11);
        due("rule(1, 1)", trail.rule(1, 1), 9);
        due("rule(2, 4)", trail.rule(2, 4), 105);
        due("rule(0, 6)", trail.rule(0, 6), -2);
        due("rule(0, -1)", trail.rule(0, -1), -2);
        due("rule(3, 0)", trail.rule(3, 0), -1);
        due("rule(-1, 9)", trail.rule(-1, 9), -1);
        // x + 2 y at most 5 draws y to 2, x to 5, and x less y at most 0 draws x to 2.
        due("number(0, 1)", trail.number(0, 1), 2);
        due("rule(0, 5)", trail.rule(0, 5), 1000 - 3 * 2);
        due("rule(1, 5)", trail.rule(1, 5), 1000 - 2);
        trail.make(2, 0, 4);
        due("rule(0, 5)", trail.rule(0, 5), 1000 - 3 * 2 + 3 * 4);
        CutTrail least = told("L49999rcccc-30");
        due("rule(0, 4) of -30", least.rule(0, 4), 70);
        due("rule(0, 5)", least.rule(0, 5), 1000 - 108);
        due("rule(0, 3) of four numbers", least.rule(0, 3), 7);
    }

    private static void mark() {
        promise = 9;
        CutTrail trail = told("L299r11+05");
        due("mark(0, 0)", trail.mark(0, 0), 15);
        due("mark(0, 2)", trail.mark(0, 2), 0);
        due("mark(0, 3)", trail.mark(0, 3), 0);
        trail.make(0, 0, 3);
        due("mark(2, 0)", trail.mark(2, 0), 3);
        due("mark(2, 1)", trail.mark(2, 1), 1);
        due("mark(2, 2)", trail.mark(2, 2), -1);
        due("mark(2, 3)", trail.mark(2, 3), 0);
        due("mark(3, 0)", trail.mark(3, 0), 112);
        due("mark(3, 1)", trail.mark(3, 1), 1);
        due("mark(3, 2)", trail.mark(3, 2), 0);
        due("mark(3, 3)", trail.mark(3, 3), 1);
        due("mark(4, 0)", trail.mark(4, 0), -9);
        due("mark(-1, 0)", trail.mark(-1, 0), -9);
        due("mark(most, 3)", trail.mark(Integer.MAX_VALUE, 3), -9);
        due("mark(0, 4)", trail.mark(0, 4), -2);
        due("mark(0, -1)", trail.mark(0, -1), -2);
        due("mark(99, 4)", trail.mark(99, 4), -2);
        // Several marks of one number and side, each more than the one ahead.
        trail.make(0, 0, 4);
        due("mark(4, 0)", trail.mark(4, 0), 4);
        due("mark(5, 0)", trail.mark(5, 0), 111);
        due("mark(5, 1)", trail.mark(5, 1), 2);
    }

    private static void markByCut() {
        CutTrail trail = smallBreak();
        trail.learn();
        due("mark(0, 0): what the cut tells", trail.mark(0, 0), 10);
        due("mark(0, 1)", trail.mark(0, 1), 0);
        due("mark(0, 2)", trail.mark(0, 2), 10);
        due("mark(0, 3)", trail.mark(0, 3), 0);
        CutTrail two = twoLevels();
        two.learn();
        due("about(2)", two.about(2), 2);
        due("mark(1, 0): the negated one", two.mark(1, 0), 110);
        due("mark(1, 1): at the level left", two.mark(1, 1), 1);
        due("mark(1, 2)", two.mark(1, 2), 10);
        due("mark(1, 3): the other mark of the cut", two.mark(1, 3), 1);
    }

    private static void cut() {
        promise = 10;
        CutTrail trail = smallBreak();
        due("cut(0, 0) ahead", trail.cut(0, 0), -1);
        trail.learn();
        due("cut(0, 0)", trail.cut(0, 0), 1);
        due("cut(0, 1)", trail.cut(0, 1), -9);
        due("cut(0, -1)", trail.cut(0, -1), -9);
        due("cut(0, least)", trail.cut(0, Integer.MIN_VALUE), -9);
        due("cut(1, 0)", trail.cut(1, 0), -1);
        due("cut(-1, 0)", trail.cut(-1, 0), -1);
        CutTrail two = twoLevels();
        two.learn();
        due("cut(0, 0)", two.cut(0, 0), 1);
        due("cut(0, 1)", two.cut(0, 1), 101);
        due("cut(0, 2)", two.cut(0, 2), -9);
    }

    /**
     * x and y and z 0 .. 1; x + y at most z + 1, x + y + z at most 2: x at level 1, w (of no
     * rule) at level 2, y at level 3 break.
     */
    private static CutTrail twoLevels() {
        CutTrail trail = told("L41111r11a0+01r1110+02");
        due("make(0, 0, 1)", trail.make(0, 0, 1), 1);
        due("make(3, 0, 1)", trail.make(3, 0, 1), 2);
        due("make(1, 0, 1)", trail.make(1, 0, 1), 4);
        due("mark(3, 0)", trail.mark(3, 0), 201);
        due("mark(3, 3)", trail.mark(3, 3), 2);
        due("about(4)", trail.about(4), 1);
        return trail;
    }

    private static void follows() {
        promise = 11;
        CutTrail trail = smallBreak();
        due("follows(0) ahead", trail.follows(0), -1);
        trail.learn();
        due("follows(0)", trail.follows(0), 1);
        due("follows(1)", trail.follows(1), -1);
        due("follows(-1)", trail.follows(-1), -1);
        CutTrail two = twoLevels();
        two.learn();
        due("follows(0) of two marks", two.follows(0), 1);
    }

    private static void make() {
        promise = 12;
        CutTrail trail = told("L299r11+05");
        due("make(2, 0, 1)", trail.make(2, 0, 1), -1);
        due("make(-1, 9, 99)", trail.make(-1, 9, 99), -1);
        due("make(0, 2, 1)", trail.make(0, 2, 1), -2);
        due("make(0, -1, 1)", trail.make(0, -1, 1), -2);
        due("make(0, 0, 10)", trail.make(0, 0, 10), -2);
        due("make(0, 1, -1)", trail.make(0, 1, -1), -2);
        due("make(0, 0, 0): so", trail.make(0, 0, 0), -3);
        due("make(0, 1, 5): so", trail.make(0, 1, 5), -3);
        due("make(0, 0, 6): not so", trail.make(0, 0, 6), -3);
        due("about(10): refused are no acts", trail.about(10), 0);
        due("make(0, 0, 5)", trail.make(0, 0, 5), 4);
        due("number(1, 1)", trail.number(1, 1), 0);
        due("about(3)", trail.about(3), 1);
        due("about(10)", trail.about(10), 1);
        CutTrail plain = told("L299");
        due("make(0, 1, 4)", plain.make(0, 1, 4), 1);
        due("make(0, 0, 4)", plain.make(0, 0, 4), 2);
        due("make(0, 1, 3): not so", plain.make(0, 1, 3), -3);
        due("make(1, 0, 9)", plain.make(1, 0, 9), 3);
        due("about(3)", plain.about(3), 3);
        due("about(7)", plain.about(7), 1);
    }

    private static void makeWhenLate() {
        CutTrail trail = smallBreak();
        due("about(4)", trail.about(4), 1);
        due("make(1, 1, 0) with a break", trail.make(1, 1, 0), -3);
        due("make(5, 1, 0) with a break", trail.make(5, 1, 0), -1);
        due("make(1, 5, 0) with a break", trail.make(1, 5, 0), -2);
        CutTrail open = told("L3111r1a0+00r110+01");
        open.make(0, 0, 1);
        due("make(2, 0, 1): neither so nor not, with a break", open.make(2, 0, 1), -3);
        CutTrail hopeless = told("L299r10+00ra0-01");
        hopeless.learn();
        due("make(1, 0, 3) without hope", hopeless.make(1, 0, 3), -3);
    }

    private static void learn() {
        promise = 13;
        CutTrail trail = smallBreak();
        due("about(2)", trail.about(2), 2);
        due("learn()", trail.learn(), 1);
        due("about(3)", trail.about(3), 0);
        due("about(2)", trail.about(2), 1);
        due("number(0, 1)", trail.number(0, 1), 0);
        due("about(4)", trail.about(4), -9);
        due("learn() without a break", trail.learn(), -3);
        due("about(10)", trail.about(10), 2);
        CutTrail two = twoLevels();
        due("learn()", two.learn(), 2);
        due("about(3): level 2 is left too", two.about(3), 1);
        due("about(2): x, and what the cut tells", two.about(2), 2);
        due("number(1, 1)", two.number(1, 1), 0);
        due("number(3, 0)", two.number(3, 0), 0);
    }

    /**
     * y is x or more, z is y or more, u is y or more, z + u at most 1: all goes through y, the
     * one mark of the last level that is nearest to the break.
     */
    private static void learnToTheOneMark() {
        CutTrail trail = told("L41111r1a00+00r01a0+00r010a+00r0011+01");
        due("make(0, 0, 1)", trail.make(0, 0, 1), 4);
        due("mark(1, 0)", trail.mark(1, 0), 101);
        due("mark(2, 0)", trail.mark(2, 0), 201);
        due("mark(3, 0)", trail.mark(3, 0), 301);
        due("about(4)", trail.about(4), 3);
        due("learn()", trail.learn(), 1);
        due("cut(0, 0)", trail.cut(0, 0), 101);
        due("mark(0, 0)", trail.mark(0, 0), 110);
        due("mark(0, 2)", trail.mark(0, 2), 10);
        due("mark(1, 0)", trail.mark(1, 0), 10);
        due("mark(1, 2)", trail.mark(1, 2), 0);
        due("mark(1, 3)", trail.mark(1, 3), 1);
        due("about(2)", trail.about(2), 2);
        // Marks of level 0 are in no cut.
        CutTrail zero = told("L41111r1a00+00r01a0+00r000a-01r0011+01");
        due("mark(0, 0)", zero.mark(0, 0), 301);
        due("mark(0, 1)", zero.mark(0, 1), 0);
        due("mark(1, 0)", zero.mark(1, 0), 210);
        CutTrail mixed = told("L3111r00a-01r1a0+00r111+02");
        due("mark(0, 0)", mixed.mark(0, 0), 201);
        due("make(0, 0, 1)", mixed.make(0, 0, 1), 3);
        due("about(4)", mixed.about(4), 2);
        due("learn(): but those of level 0", mixed.learn(), 1);
        due("cut(0, 0)", mixed.cut(0, 0), 1);
    }

    private static void learnWithoutHope() {
        CutTrail trail = noWay();
        due("learn()", trail.learn(), 0);
        due("about(6)", trail.about(6), 1);
        due("about(5)", trail.about(5), 0);
        due("about(2): the trail stays", trail.about(2), 1);
        due("about(10)", trail.about(10), 1);
        due("learn() without hope", trail.learn(), -3);
        due("leave() without hope", trail.leave(), -3);
        due("undo()", trail.undo(), 0);
        due("about(6)", trail.about(6), 0);
        due("about(4)", trail.about(4), 1);
        due("learn()", trail.learn(), 0);
    }

    private static void leave() {
        promise = 14;
        CutTrail trail = told("L299r11+05");
        due("leave() at level 0", trail.leave(), -3);
        trail.make(0, 0, 2);
        trail.make(1, 0, 1);
        due("about(3)", trail.about(3), 2);
        due("leave()", trail.leave(), 1);
        due("about(2)", trail.about(2), 4);
        due("number(1, 0)", trail.number(1, 0), 0);
        due("number(1, 1)", trail.number(1, 1), 3);
        due("leave()", trail.leave(), 0);
        due("about(2)", trail.about(2), 2);
        due("leave()", trail.leave(), -3);
        due("about(10)", trail.about(10), 4);
        CutTrail broken = smallBreak();
        due("leave() with a break", broken.leave(), 0);
        due("about(4)", broken.about(4), -9);
        due("about(2)", broken.about(2), 0);
        due("about(5)", broken.about(5), 0);
    }

    private static void run() {
        promise = 15;
        CutTrail trail = told("L299r11+05");
        due("run(0)", trail.run(0), -2);
        due("run(51)", trail.run(51), -2);
        due("run(-1)", trail.run(-1), -2);
        due("about(10)", trail.about(10), 0);
        due("run(1)", trail.run(1), 1);
        due("mark(2, 0)", trail.mark(2, 0), 10);
        due("run(50)", trail.run(50), 1);
        due("mark(3, 0)", trail.mark(3, 0), 110);
        due("about(7)", trail.about(7), 1);
        due("about(10): a run is one act", trail.about(10), 2);
        due("run(50) when solved", trail.run(50), 0);
        due("about(10): an act too", trail.about(10), 3);
        CutTrail hopeless = noWay();
        due("run(50): the step to no hope was done", hopeless.run(50), 1);
        due("about(6)", hopeless.about(6), 1);
        due("run(1) without hope", hopeless.run(1), 0);
        due("about(10)", hopeless.about(10), 2);
        // 2 x + 2 y less 2 z is 1: all values are even.
        CutTrail odd = told("L3111r22b+01rbb2-01");
        due("about(8)", odd.about(8), 0);
        int steps = odd.run(50);
        due("run(50) ends", steps < 50 && steps > 1 ? 1 : 0, 1);
        due("about(6)", odd.about(6), 1);
        due("about(3)", odd.about(3), 0);
        CutTrail small = smallBreak();
        due("run(1) learns", small.run(1), 1);
        due("about(5)", small.about(5), 1);
        due("run(50)", small.run(50), 1);
        due("number(1, 1)", small.number(1, 1), 0);
    }

    private static void undo() {
        promise = 16;
        CutTrail trail = told("L211r1a+00r11+01");
        due("undo() of nothing", trail.undo(), -3);
        trail.make(0, 0, 1);
        trail.learn();
        trail.make(1, 0, 1);
        trail.leave();
        trail.run(3);
        due("about(10)", trail.about(10), 5);
        due("undo() of run", trail.undo(), 4);
        due("about(2)", trail.about(2), 1);
        due("about(3)", trail.about(3), 0);
        due("undo() of leave", trail.undo(), 3);
        due("about(3)", trail.about(3), 1);
        due("number(1, 0)", trail.number(1, 0), 1);
        due("undo() of make", trail.undo(), 2);
        due("number(1, 0)", trail.number(1, 0), 0);
        due("undo() of learn", trail.undo(), 1);
        due("about(5)", trail.about(5), 0);
        due("about(4)", trail.about(4), 1);
        due("about(2)", trail.about(2), 2);
        due("undo() of make", trail.undo(), 0);
        due("about(2)", trail.about(2), 0);
        due("undo()", trail.undo(), -3);
        trail.make(0, 0, 1);
        trail.see(0, 0, 1, 1);
        trail.seed(9);
        trail.write('x');
        trail.undo();
        due("about(11): seen is not undone", trail.about(11), 1);
        due("seed(0) is not undone", trail.seed(0), 9);
        due("about(12): the text is not undone", trail.about(12), 17);
    }

    private static void undoRow() {
        CutTrail trail = told("L299");
        for (int k = 1; k <= 8; k++) {
            trail.make(0, 0, k);
        }
        for (int k = 1; k <= 8; k++) {
            trail.make(1, 0, k);
        }
        due("about(10): never more than 14", trail.about(10), 14);
        for (int left = 13; left >= 0; left--) {
            due("undo()", trail.undo(), left);
            due("about(2)", trail.about(2), left + 2);
        }
        due("undo()", trail.undo(), -3);
        due("number(0, 0): the first two can not be undone", trail.number(0, 0), 2);
    }

    private static void judge() {
        promise = 17;
        CutTrail trail = told("L299r11+05");
        due("judge(0, 0)", trail.judge(0, 0), -2);
        due("judge(5, 0)", trail.judge(5, 0), -2);
        due("judge(1, -1)", trail.judge(1, -1), -2);
        due("judge(1, 1000)", trail.judge(1, 1000), -2);
        due("judge(4, 10^12)", trail.judge(4, 1000000000000L), -2);
        due("judge(4, most)", trail.judge(4, Long.MAX_VALUE), -2);
        due("judge(1, least)", trail.judge(1, Long.MIN_VALUE), -2);
        due("judge(1, 0)", trail.judge(1, 0), 0);
        due("judge(4, 103404503612)", trail.judge(4, 103404503612L), -9);
        due("judge(4, 103404503613)", trail.judge(4, 103404503613L), 3);
        due("judge(4, 103404504612)", trail.judge(4, 103404504612L), 2);
        due("judge(3, 103405503)", trail.judge(3, 103405503L), 1);
        due("judge(2, 203105): 5 is not so then", trail.judge(2, 203105L), 1);
        due("judge(2, 203102)", trail.judge(2, 203102L), -9);
        due("judge(1, 100): so", trail.judge(1, 100), 0);
        due("judge(1, 123): no such number", trail.judge(1, 123), 0);
        due("judge(1, 520): no such number", trail.judge(1, 520), 0);
        due("judge(1, 690): no such number", trail.judge(1, 690), 0);
        due("judge(1, 300): nothing breaks", trail.judge(1, 300), 0);
        due("judge(1, 402)", trail.judge(1, 402), -9);
        due("judge(2, 402402)", trail.judge(2, 402402), -9);
        due("judge(2, 402): ahead of it 0", trail.judge(2, 402), 0);
        due("judge(1, 700)", trail.judge(1, 700), -9);
        due("judge(1, 701)", trail.judge(1, 701), 0);
        due("judge(1, 800)", trail.judge(1, 800), 0);
        due("judge(1, 999)", trail.judge(1, 999), 0);
        due("about(2): nothing is changed", trail.about(2), 2);
        due("about(10): nothing is changed", trail.about(10), 0);
    }

    private static void judgeLearnt() {
        CutTrail trail = told("L211r1a+00r11+01");
        due("judge(4, 101402300701)", trail.judge(4, 101402300701L), -9);
        due("judge(4, 101300701600)", trail.judge(4, 101300701600L), -9);
        due("judge(3, 101300300)", trail.judge(3, 101300300L), 2);
        due("judge(2, 101310): no doing is told so", trail.judge(2, 101310L), 1);
        due("judge(2, 101210): it breaks", trail.judge(2, 101210L), 1);
        due("about(5)", trail.about(5), 0);
        CutTrail hopeless = noWay();
        due("judge(2, 300300)", hopeless.judge(2, 300300L), 1);
        due("judge(2, 300401)", hopeless.judge(2, 300401L), -9);
        due("about(6)", hopeless.about(6), 0);
    }

    private static void see() {
        promise = 18;
        CutTrail trail = told("L299");
        due("see(2, 0, 1, 1)", trail.see(2, 0, 1, 1), -1);
        due("see(-1, 7, 1, 1)", trail.see(-1, 7, 1, 1), -1);
        due("see(0, 2, 1, 1)", trail.see(0, 2, 1, 1), -2);
        due("see(0, -1, 1, 1)", trail.see(0, -1, 1, 1), -2);
        due("see(0, 0, 10, 1)", trail.see(0, 0, 10, 1), -2);
        due("see(0, 0, -1, 1)", trail.see(0, 0, -1, 1), -2);
        due("see(0, 0, 1, 2)", trail.see(0, 0, 1, 2), -2);
        due("see(0, 0, 1, -1)", trail.see(0, 0, 1, -1), -2);
        due("about(11)", trail.about(11), 0);
        for (int i = 1; i <= 6; i++) {
            due("see(1, 0, 0, 1)", trail.see(1, 0, 0, 1), i);
        }
        due("see(1, 0, 0, 1) behind 6", trail.see(1, 0, 0, 1), -4);
        due("see(1, 0, 0, 2) behind 6", trail.see(1, 0, 0, 2), -2);
        due("see(2, 0, 0, 1) behind 6", trail.see(2, 0, 0, 1), -1);
        due("about(11)", trail.about(11), 6);
        due("about(10): no act", trail.about(10), 0);
    }

    private static void unsee() {
        promise = 19;
        CutTrail trail = told("L299");
        due("unsee()", trail.unsee(), 0);
        trail.see(0, 0, 5, 1);
        trail.see(0, 0, 7, 0);
        due("unsee()", trail.unsee(), 2);
        due("unsee() again", trail.unsee(), 0);
        due("which()", trail.which(), 100);
        due("see(0, 0, 5, 1)", trail.see(0, 0, 5, 1), 1);
        due("which()", trail.which(), 50);
    }

    private static void which() {
        promise = 20;
        CutTrail trail = told("L299r11+05");
        due("which()", trail.which(), 21);
        trail.make(0, 0, 3);
        due("which(): the trail set aside", trail.which(), 21);
        trail.see(0, 0, 2, 1);
        due("which(): x 2 or more", trail.which(), 10);
        trail.see(1, 1, 0, 0);
        due("which(): y not 0 or less", trail.which(), 6);
        trail.see(0, 0, 4, 0);
        due("which(): x not 4 or more", trail.which(), 5);
        trail.see(1, 1, 2, 1);
        due("which(): y 2 or less", trail.which(), 4);
        put(trail, "L15");
        trail.task();
        due("which(): y is not looked at any more", trail.which(), 2);
        put(trail, "L255");
        trail.task();
        due("which(): y is again", trail.which(), 4);
        trail.unsee();
        trail.see(0, 0, 0, 0);
        due("which(): not 0 or more", trail.which(), 0);
        trail.unsee();
        trail.see(0, 1, 9, 0);
        due("which(): not 9 or less", trail.which(), 0);
        trail.unsee();
        trail.see(0, 1, 9, 1);
        due("which(): 9 or less", trail.which(), 36);
    }

    private static void share() {
        promise = 21;
        CutTrail trail = told("L19r1+04r1+06ra-02");
        // Of 10 values: alone 5, 3, 2 fewer; 1 and 2 rule out 7 8 9 both, 1 also 5 6.
        due("share(0, true)", trail.share(0, true), 7);
        due("share(0, false)", trail.share(0, false), 2);
        due("share(1, true)", trail.share(1, true), 3);
        due("share(1, false)", trail.share(1, false), 2);
        due("share(2, true)", trail.share(2, true), 2);
        due("share(2, false)", trail.share(2, false), 1);
        due("share(3, true)", trail.share(3, true), -1);
        due("share(-1, false)", trail.share(-1, false), -1);
        due("share(0, true) of none", new CutTrail().share(0, true), -1);
        CutTrail idle = told("L19r1+30r1+09");
        due("share(0, true): nothing ruled out", idle.share(0, true), 0);
        due("share(0, false): nothing ruled out", idle.share(0, false), 1);
        CutTrail three = told("L19r1+08r1+08r1+08");
        due("share(2, true): a third of one", three.share(2, true), 1);
        due("share(2, false): a third of one", three.share(2, false), 3);
        put(three, "L19r1+08");
        three.task();
        due("share(0, true) of the new task", three.share(0, true), 1);
        due("share(0, false) of the new task", three.share(0, false), 1);
    }

    private static void chance() {
        promise = 22;
        CutTrail trail = told("L19r1+04ra-02");
        // Both: 3 ways; the first alone 5; the second alone 8; none 10.
        due("chance(0, 3, true)", trail.chance(0, 3, true), 1);
        due("chance(3, 3, false)", trail.chance(3, 3, false), 1);
        due("chance(4, 3, true)", trail.chance(4, 3, true), 51);
        due("chance(4, 3, false)", trail.chance(4, 3, false), 100);
        due("chance(6, 3, true)", trail.chance(6, 3, true), 3);
        due("chance(6, 3, false)", trail.chance(6, 3, false), 10);
        due("chance(9, 2, true)", trail.chance(9, 2, true), 1);
        due("chance(9, 2, false)", trail.chance(9, 2, false), 25);
        due("chance(11, 2, true)", trail.chance(11, 2, true), 0);
        due("chance(11, 2, false)", trail.chance(11, 2, false), 1);
        due("chance(4, 0, true)", trail.chance(4, 0, true), 0);
        due("chance(3, 0, true)", trail.chance(3, 0, true), 1);
        due("chance(10, 10, true)", trail.chance(10, 10, true), 1);
        due("chance(9999, 10, true)", trail.chance(9999, 10, true), 0);
        due("chance(9999, 10, true) of many", told("L49999").chance(9999, 10, true), 1);
        due("chance(10000, 0, true)", trail.chance(10000, 0, true), -2);
        due("chance(-1, 0, true)", trail.chance(-1, 0, true), -2);
        due("chance(0, 11, true)", trail.chance(0, 11, true), -2);
        due("chance(0, -1, false)", trail.chance(0, -1, false), -2);
        CutTrail six = told("L19" + "r1+00".repeat(6));
        due("chance(2, 1, true): all six lost", six.chance(2, 1, true), 1);
        due("chance(2, 1, false): all six lost", six.chance(2, 1, false), 1000000);
        due("chance(2, 9, true)", six.chance(2, 9, true), 531441);
    }

    private static void seed() {
        promise = 23;
        CutTrail trail = new CutTrail();
        due("seed(5)", trail.seed(5), 0);
        due("seed(least)", trail.seed(Long.MIN_VALUE), 5);
        due("seed(most)", trail.seed(Long.MAX_VALUE), Long.MIN_VALUE);
        due("seed(0)", trail.seed(0), Long.MAX_VALUE);
    }

    private static void drawn() {
        promise = 24;
        CutTrail trail = told("L299r11+05");
        due("drawn(0)", trail.drawn(0), -2);
        due("drawn(11)", trail.drawn(11), -2);
        due("drawn(-1)", trail.drawn(-1), -2);
        due("seed(3): refused changes nothing", trail.seed(3), 0);
        long x = 3;
        int sum = 0;
        CutTrail twin = told("L299r11+05");
        for (int i = 0; i < 10; i++) {
            x = x * 6364136223846793005L + 1442695040888963407L;
            int v = (int) (x >>> 33);
            twin.make(v % 2, v / 4 % 2, v / 8 % 10);
            sum += twin.about(2);
        }
        due("drawn(10)", trail.drawn(10), sum);
        due("about(2): nothing changes", trail.about(2), 2);
        due("about(10): nothing changes", trail.about(10), 0);
        due("seed(3): the seed does", trail.seed(3), x);
        int once = trail.drawn(4);
        trail.seed(3);
        due("drawn(4) once more", trail.drawn(4), once);
        due("drawn(1) when all is fixed", told("L10").drawn(1), 0);
    }

    private static void drawnLearns() {
        String text = "L41111r1a00+00r01a0+00r010a+00r0011+01";
        for (long start = 0; start < 40; start++) {
            CutTrail trail = told(text);
            CutTrail twin = told(text);
            trail.seed(start);
            long x = start;
            int sum = 0;
            for (int i = 0; i < 10; i++) {
                x = x * 6364136223846793005L + 1442695040888963407L;
                int v = (int) (x >>> 33);
                if (twin.about(4) != -9) {
                    twin.learn();
                } else {
                    twin.make(v % 4, v / 4 % 2, v / 8 % 10);
                }
                sum += twin.about(2);
            }
            due("drawn(10) from " + start, trail.drawn(10), sum);
            due("about(5): no cut stays", trail.about(5), 0);
        }
        CutTrail hopeless = noWay();
        due("drawn(3): without hope nothing", hopeless.drawn(3), 3);
        due("about(6): nothing changes", hopeless.about(6), 0);
    }

    private static void keep() {
        promise = 25;
        CutTrail trail = told("L299r11+05");
        due("keep(-1)", trail.keep(-1), -1);
        due("keep(2)", trail.keep(2), -1);
        due("keep(0)", trail.keep(0), 2);
        trail.make(0, 0, 3);
        due("keep(1)", trail.keep(1), 4);
        due("about(10): acts stay", trail.about(10), 1);
        due("keep(0): over what was", trail.keep(0), 4);
        due("undo()", trail.undo(), 0);
        due("again(0)", trail.again(0), 4);
    }

    private static void again() {
        promise = 26;
        CutTrail trail = told("L211r1a+00r11+01");
        due("again(-1)", trail.again(-1), -1);
        due("again(2)", trail.again(2), -1);
        due("again(0)", trail.again(0), -3);
        trail.keep(0);
        due("again(1)", trail.again(1), -3);
        trail.make(0, 0, 1);
        trail.keep(1);
        trail.learn();
        trail.see(0, 0, 1, 1);
        trail.seed(4);
        due("again(1)", trail.again(1), 2);
        due("about(10): no acts", trail.about(10), 0);
        due("undo()", trail.undo(), -3);
        due("about(5): the cuts go", trail.about(5), 0);
        due("about(4)", trail.about(4), 1);
        due("about(11): seen is not kept", trail.about(11), 1);
        due("seed(0) is not kept", trail.seed(0), 4);
        due("learn()", trail.learn(), 1);
        trail.keep(1);
        due("again(0)", trail.again(0), 0);
        due("about(2)", trail.about(2), 0);
        due("again(1): the cuts come", trail.again(1), 1);
        due("about(5)", trail.about(5), 1);
        due("cut(0, 0)", trail.cut(0, 0), 1);
        due("again(1): as often as one likes", trail.again(1), 1);
        CutTrail hopeless = noWay();
        hopeless.keep(0);
        hopeless.learn();
        hopeless.keep(1);
        hopeless.again(0);
        due("about(6): gone back from", hopeless.about(6), 0);
        hopeless.again(1);
        due("about(6): kept", hopeless.about(6), 1);
        due("learn()", hopeless.learn(), -3);
    }
}
