/**
 * Whole numbers under rules, solved by learning: marks on a trail, breaks traced back,
 * cuts learnt from them. The document of the project says what each call answers.
 *
 * Every row is made in the constructors and used again, so that no call makes an object.
 */
public final class CutTrail {
    public static final int UNKNOWN = -1, BAD = -2, LATE = -3, FULL = -4, NONE = -9;

    private static final int MOST_NUMBERS = 4;
    private static final int MOST_RULES = 6;
    private static final int MOST_CUTS = 40;
    private static final int MOST_LETTERS = 60;
    private static final int MOST_ACTS = 14;
    private static final int MOST_SEEN = 6;
    private static final int MOST_STEPS = 50;
    private static final int MOST_DOINGS = 4;
    private static final int MOST_DRAWS = 10;
    private static final int MOST_WAYS_ASKED = 9999;
    private static final int SLOTS = 2;
    private static final int TOP_OF_ALL = 9;

    // A mark takes at least one value from its number, and a number has nine to give.
    private static final int MOST_MARKS = MOST_NUMBERS * TOP_OF_ALL;
    // A set of marks holds only one of each number and side.
    private static final int MOST_IN_SET = MOST_NUMBERS * 2;
    private static final int RULE_SETS = 1 << MOST_RULES;

    private static final int AT_LEAST = 0;
    private static final int AT_MOST = 1;
    private static final int MADE = -1;
    private static final int FIRST_CUT = 10;
    private static final int NOWHERE = -1;

    private static final int[] ORDERS = {1, 1, 2, 6, 24, 120, 720};

    private final Task told = new Task();
    private final Text text = new Text();
    private final State now = new State(told);
    // What is only asked about is done on this one, so that nothing changes.
    private final State trial = new State(told);
    private final Tracer tracer = new Tracer();
    private final Acts acts = new Acts(told);
    private final Slots slots = new Slots(told);
    private final Seen seen = new Seen();
    private final Ways ways = new Ways(told);
    private final Chances chances = new Chances(told);
    private long seedNow = 0;

    public CutTrail() {
    }

    // ---- the task

    public int write(int letter) {
        if (letter < 0 || letter > 255) {
            return BAD;
        }
        if (text.length >= MOST_LETTERS) {
            return FULL;
        }
        text.put(letter);
        return text.length;
    }

    public int wipe() {
        int was = text.length;
        text.length = 0;
        return was;
    }

    public int fault() {
        return text.firstFault();
    }

    public int task() {
        if (text.firstFault() != NONE) {
            return LATE;
        }
        text.tellTo(told);
        chances.counted = false;
        acts.count = 0;
        slots.empty();
        now.begin();
        return told.rules;
    }

    public int about(int what) {
        switch (what) {
            case 0: return told.numbers;
            case 1: return told.rules;
            case 2: return now.trail.size;
            case 3: return now.trail.level();
            case 4: return now.theBreak();
            case 5: return now.cuts.count;
            case 6: return now.hopeless ? 1 : 0;
            case 7: return now.isSolved() ? 1 : 0;
            case 8: return ways.all();
            case 9: return ways.along(now.trail);
            case 10: return acts.count;
            case 11: return seen.count;
            case 12: return text.length;
            default: return BAD;
        }
    }

    public int number(int x, int what) {
        if (!told.hasNumber(x)) {
            return UNKNOWN;
        }
        switch (what) {
            case 0: return now.trail.low[x];
            case 1: return now.trail.high[x];
            case 2: return told.tops[x];
            case 3: return ways.leastOfAll(x);
            default: return BAD;
        }
    }

    public int rule(int rule, int what) {
        if (!told.hasRule(rule)) {
            return UNKNOWN;
        }
        if (told.hasNumber(what)) {
            return told.weights[rule][what] + 10;
        }
        switch (what) {
            case 4: return told.bounds[rule] + 100;
            case 5: return now.least(rule) + 1000;
            default: return BAD;
        }
    }

    public int mark(int i, int what) {
        if (what < 0 || what > 3) {
            return BAD;
        }
        if (i < 0 || i >= now.trail.size) {
            return NONE;
        }
        switch (what) {
            case 0: return now.trail.marks[i];
            case 1: return now.trail.levels[i];
            case 2: return now.trail.reasons[i];
            default: return tracer.countWhy(now, i);
        }
    }

    public int cut(int cut, int k) {
        if (!now.cuts.has(cut)) {
            return UNKNOWN;
        }
        if (k < 0 || k >= now.cuts.sizes[cut]) {
            return NONE;
        }
        return now.cuts.at(cut, k);
    }

    public int follows(int cut) {
        if (!now.cuts.has(cut)) {
            return UNKNOWN;
        }
        return ways.within(now.cuts, cut) == 0 ? 1 : 0;
    }

    // ---- acts

    public int make(int x, int side, int k) {
        if (!told.hasNumber(x)) {
            return UNKNOWN;
        }
        if (!isSide(side) || !isValue(k)) {
            return BAD;
        }
        int mark = markOf(x, side, k);
        if (!now.canMake(mark)) {
            return LATE;
        }
        acts.remember(now);
        now.made(mark);
        return now.trail.size;
    }

    public int learn() {
        if (!now.canLearn()) {
            return LATE;
        }
        acts.remember(now);
        return tracer.learnt(now);
    }

    public int leave() {
        if (now.trail.level() == 0) {
            return LATE;
        }
        acts.remember(now);
        now.left();
        return now.trail.level();
    }

    public int run(int n) {
        if (n < 1 || n > MOST_STEPS) {
            return BAD;
        }
        acts.remember(now);
        int steps = 0;
        while (steps < n && oneStep()) {
            steps++;
        }
        return steps;
    }

    public int undo() {
        if (acts.count <= 0) {
            return LATE;
        }
        acts.takeBack(now);
        return acts.count;
    }

    // ---- asked

    public int judge(int n, long row) {
        if (n < 1 || n > MOST_DOINGS) {
            return BAD;
        }
        long end = 1;
        for (int i = 0; i < n; i++) {
            end *= 1000;
        }
        if (row < 0 || row >= end) {
            return BAD;
        }
        trial.copy(now);
        long rest = row;
        for (int i = 0; i < n; i++) {
            // The first doing is the highest: each time all are moved up by three figures.
            rest *= 1000;
            if (!canBe((int) (rest / end))) {
                return i;
            }
            rest %= end;
        }
        return NONE;
    }

    // ---- seen

    public int see(int x, int side, int k, int was) {
        if (!told.hasNumber(x)) {
            return UNKNOWN;
        }
        if (!isSide(side) || !isValue(k) || was < 0 || was > 1) {
            return BAD;
        }
        if (seen.count >= MOST_SEEN) {
            return FULL;
        }
        seen.put(markOf(x, side, k), was == 1);
        return seen.count;
    }

    public int unsee() {
        int was = seen.count;
        seen.count = 0;
        return was;
    }

    public int which() {
        return ways.bySeen(seen);
    }

    // ---- shares, chances

    public int share(int rule, boolean upper) {
        if (!told.hasRule(rule)) {
            return UNKNOWN;
        }
        return chances.shareOf(rule, upper);
    }

    public int chance(int v, int x, boolean upper) {
        if (v < 0 || v > MOST_WAYS_ASKED || x < 0 || x > 10) {
            return BAD;
        }
        return chances.chanceOf(v, x, upper);
    }

    public long seed(long v) {
        long was = seedNow;
        seedNow = v;
        return was;
    }

    public int drawn(int m) {
        if (m < 1 || m > MOST_DRAWS) {
            return BAD;
        }
        trial.copy(now);
        int sum = 0;
        for (int i = 0; i < m; i++) {
            seedNow = seedNow * 6364136223846793005L + 1442695040888963407L;
            drawOnTrial((int) (seedNow >>> 33));
            sum += trial.trail.size;
        }
        return sum;
    }

    // ---- slots

    public int keep(int slot) {
        if (!slots.has(slot)) {
            return UNKNOWN;
        }
        slots.put(slot, now);
        return now.trail.size;
    }

    public int again(int slot) {
        if (!slots.has(slot)) {
            return UNKNOWN;
        }
        if (!slots.filled[slot]) {
            return LATE;
        }
        now.copy(slots.kept[slot]);
        acts.count = 0;
        return now.trail.size;
    }

    // ---- what the calls share

    // Whether there was something to do. Without hope there is a break: no mark is made then.
    private boolean oneStep() {
        if (now.canLearn()) {
            tracer.learnt(now);
            return true;
        }
        int x = now.trail.firstOpen();
        return x != NONE && now.made(markOf(x, AT_MOST, now.trail.low[x]));
    }

    private boolean canBe(int doing) {
        int first = doing / 10 % 10;
        int second = doing % 10;
        switch (doing / 100) {
            case 1: return trial.made(markOf(first, AT_LEAST, second));
            case 2: return trial.made(markOf(first, AT_MOST, second));
            case 3: return doing == 300 && trial.canLearn() && tracer.learnt(trial) >= 0;
            case 4: return trial.trail.size == doing % 100;
            case 5: return told.hasNumber(first) && trial.trail.low[first] == second;
            case 6: return told.hasNumber(first) && trial.trail.high[first] == second;
            case 7: return trial.cuts.count == doing % 100;
            default: return false;
        }
    }

    private void drawOnTrial(int v) {
        if (trial.canLearn()) {
            tracer.learnt(trial);
        } else if (told.numbers > 0) {
            trial.made(markOf(v % told.numbers, v / 4 % 2, v / 8 % 10));
        }
    }

    private static boolean isSide(int side) {
        return side == AT_LEAST || side == AT_MOST;
    }

    private static boolean isValue(int k) {
        return k >= 0 && k <= TOP_OF_ALL;
    }

    // Marks are held just as they are told.
    private static int markOf(int x, int side, int k) {
        return 100 * x + 10 * side + k;
    }

    // Only marks that came onto a trail are negated: they told more than 0 or less than the
    // top, so k stays in 0 .. 9.
    private static int negated(int mark) {
        return mark / 10 % 10 == AT_LEAST ? mark + 9 : mark - 9;
    }

    // The place of a mark's number and side in a row of all of them.
    private static int sideRow(int mark) {
        return mark / 100 * 2 + mark / 10 % 10;
    }

    /** The numbers and the rules. Numbers that there are not have top 0 and weights 0. */
    private static final class Task {
        int numbers = 1;
        int rules = 0;
        final int[] tops = new int[MOST_NUMBERS];
        final int[][] weights = new int[MOST_RULES][MOST_NUMBERS];
        final int[] bounds = new int[MOST_RULES];

        Task() {
            tops[0] = TOP_OF_ALL;
        }

        boolean hasNumber(int x) {
            return x >= 0 && x < numbers;
        }

        boolean hasRule(int rule) {
            return rule >= 0 && rule < rules;
        }
    }

    /** The text, letter by letter. */
    private static final class Text {
        final int[] letters = new int[MOST_LETTERS];
        int length = 0;

        void put(int letter) {
            if (length < MOST_LETTERS) {
                letters[length] = letter;
                length++;
            }
        }

        int firstFault() {
            for (int place = 0; place < length; place++) {
                if (!canStand(place)) {
                    return place;
                }
            }
            return isWhole() ? NONE : length;
        }

        // Asked only when all letters ahead can stand where they do.
        private boolean canStand(int place) {
            int letter = letters[place];
            if (place == 0) {
                return letter == 'L';
            }
            if (place == 1) {
                return letter >= '1' && letter <= '4';
            }
            int n = numbersTold();
            if (place < 2 + n) {
                return isFigure(letter);
            }
            int behind = place - 2 - n;
            if (behind / (n + 4) >= MOST_RULES) {
                return false;
            }
            return canStandInRule(place, behind % (n + 4), n);
        }

        private boolean canStandInRule(int place, int at, int n) {
            int letter = letters[place];
            if (at == 0) {
                return letter == 'r';
            }
            if (at <= n) {
                return letter >= '0' && letter <= '3' || letter >= 'a' && letter <= 'c';
            }
            if (at == n + 1) {
                return letter == '+' || letter == '-';
            }
            if (at == n + 2) {
                return letter >= '0' && letter <= '3';
            }
            return letters[place - 1] == '3' ? letter == '0' : isFigure(letter);
        }

        private boolean isWhole() {
            if (length < 2) {
                return false;
            }
            int n = numbersTold();
            return length >= 2 + n && (length - 2 - n) % (n + 4) == 0;
        }

        // Held to 1 .. 4 whatever the letter is, so that all places reckoned by it are sound.
        private int numbersTold() {
            return Math.max(1, Math.min(MOST_NUMBERS, letters[1] - '0'));
        }

        private static boolean isFigure(int letter) {
            return letter >= '0' && letter <= '9';
        }

        // Asked only when the text has no fault.
        void tellTo(Task task) {
            int n = numbersTold();
            task.numbers = n;
            for (int x = 0; x < MOST_NUMBERS; x++) {
                task.tops[x] = x < n ? letters[2 + x] - '0' : 0;
            }
            task.rules = Math.min(MOST_RULES, (length - 2 - n) / (n + 4));
            for (int rule = 0; rule < task.rules; rule++) {
                tellRule(task, rule, 2 + n + rule * (n + 4));
            }
        }

        private void tellRule(Task task, int rule, int start) {
            int n = task.numbers;
            for (int x = 0; x < MOST_NUMBERS; x++) {
                task.weights[rule][x] = x < n ? weightOf(letters[start + 1 + x]) : 0;
            }
            int size = 10 * (letters[start + n + 2] - '0') + letters[start + n + 3] - '0';
            task.bounds[rule] = letters[start + n + 1] == '-' ? -size : size;
        }

        private static int weightOf(int letter) {
            return isFigure(letter) ? letter - '0' : 'a' - 1 - letter;
        }
    }

    /** The marks, and the bounds that come of them. */
    private static final class Trail {
        final Task task;
        final int[] marks = new int[MOST_MARKS];
        final int[] levels = new int[MOST_MARKS];
        final int[] reasons = new int[MOST_MARKS];
        final int[] low = new int[MOST_NUMBERS];
        final int[] high = new int[MOST_NUMBERS];
        int size = 0;

        Trail(Task task) {
            this.task = task;
            cutOff(0);
        }

        int level() {
            return size > 0 ? levels[size - 1] : 0;
        }

        void put(int mark, int level, int reason) {
            if (size < MOST_MARKS) {
                marks[size] = mark;
                levels[size] = level;
                reasons[size] = reason;
                size++;
                draw(mark);
            }
        }

        // Each mark on the trail is more than those ahead of it: the last one is the bound.
        private void draw(int mark) {
            int[] bounds = mark / 10 % 10 == AT_LEAST ? low : high;
            bounds[mark / 100] = mark % 10;
        }

        void cutOff(int from) {
            size = from;
            for (int x = 0; x < MOST_NUMBERS; x++) {
                low[x] = 0;
                high[x] = task.tops[x];
            }
            for (int i = 0; i < size; i++) {
                draw(marks[i]);
            }
        }

        // Levels only grow along the trail.
        void cutAbove(int level) {
            int from = size;
            while (from > 0 && levels[from - 1] > level) {
                from--;
            }
            cutOff(from);
        }

        boolean isSo(int mark) {
            int x = mark / 100;
            int k = mark % 10;
            return mark / 10 % 10 == AT_LEAST ? k <= low[x] : k >= high[x];
        }

        boolean isNotSo(int mark) {
            int x = mark / 100;
            int k = mark % 10;
            return mark / 10 % 10 == AT_LEAST ? k > high[x] : k < low[x];
        }

        int firstOpen() {
            for (int x = 0; x < task.numbers; x++) {
                if (low[x] < high[x]) {
                    return x;
                }
            }
            return NONE;
        }

        // The last place ahead of end with a mark of that number and side.
        int lastAhead(int end, int x, int side) {
            for (int i = Math.min(end, size) - 1; i >= 0; i--) {
                if (marks[i] / 10 == 10 * x + side) {
                    return i;
                }
            }
            return NOWHERE;
        }

        boolean hasReason(int reason) {
            for (int i = 0; i < size; i++) {
                if (reasons[i] == reason) {
                    return true;
                }
            }
            return false;
        }

        void lowerReasonsAbove(int reason) {
            for (int i = 0; i < size; i++) {
                if (reasons[i] > reason) {
                    reasons[i]--;
                }
            }
        }

        void copy(Trail other) {
            size = other.size;
            System.arraycopy(other.marks, 0, marks, 0, size);
            System.arraycopy(other.levels, 0, levels, 0, size);
            System.arraycopy(other.reasons, 0, reasons, 0, size);
            System.arraycopy(other.low, 0, low, 0, MOST_NUMBERS);
            System.arraycopy(other.high, 0, high, 0, MOST_NUMBERS);
        }
    }

    /** The cuts, one behind the other in one row with room for the greatest set each. */
    private static final class Cuts {
        final int[] marks = new int[MOST_CUTS * MOST_IN_SET];
        final int[] sizes = new int[MOST_CUTS];
        int count = 0;

        boolean has(int cut) {
            return cut >= 0 && cut < count;
        }

        int at(int cut, int k) {
            return marks[cut * MOST_IN_SET + k];
        }

        void addEmpty() {
            if (count < MOST_CUTS) {
                sizes[count] = 0;
                count++;
            }
        }

        void putInLast(int mark) {
            int last = count - 1;
            if (last >= 0 && sizes[last] < MOST_IN_SET) {
                marks[last * MOST_IN_SET + sizes[last]] = mark;
                sizes[last]++;
            }
        }

        void forget(int cut) {
            int behind = count - cut - 1;
            int start = cut * MOST_IN_SET;
            System.arraycopy(sizes, cut + 1, sizes, cut, behind);
            System.arraycopy(marks, start + MOST_IN_SET, marks, start, behind * MOST_IN_SET);
            count--;
        }

        void copy(Cuts other) {
            count = other.count;
            System.arraycopy(other.sizes, 0, sizes, 0, count);
            System.arraycopy(other.marks, 0, marks, 0, count * MOST_IN_SET);
        }
    }

    /** All that an act can change: the trail, the cuts, whether there is hope. */
    private static final class State {
        final Task task;
        final Trail trail;
        final Cuts cuts = new Cuts();
        boolean hopeless = false;

        State(Task task) {
            this.task = task;
            this.trail = new Trail(task);
        }

        void begin() {
            hopeless = false;
            cuts.count = 0;
            trail.cutOff(0);
            drawIn();
        }

        void copy(State other) {
            hopeless = other.hopeless;
            trail.copy(other.trail);
            cuts.copy(other.cuts);
        }

        int least(int rule) {
            int[] weights = task.weights[rule];
            int sum = 0;
            for (int x = 0; x < task.numbers; x++) {
                sum += weights[x] * (weights[x] > 0 ? trail.low[x] : trail.high[x]);
            }
            return sum;
        }

        int theBreak() {
            for (int rule = 0; rule < task.rules; rule++) {
                if (least(rule) > task.bounds[rule]) {
                    return rule;
                }
            }
            for (int cut = 0; cut < cuts.count; cut++) {
                if (cutBreaks(cut)) {
                    return FIRST_CUT + cut;
                }
            }
            return NONE;
        }

        private boolean cutBreaks(int cut) {
            for (int k = 0; k < cuts.sizes[cut]; k++) {
                if (!trail.isSo(cuts.at(cut, k))) {
                    return false;
                }
            }
            return true;
        }

        // Each turn puts a mark, and there is room for no more than the turns counted.
        void drawIn() {
            for (int turn = 0; turn < MOST_MARKS; turn++) {
                if (theBreak() != NONE || !drawOne()) {
                    return;
                }
            }
        }

        private boolean drawOne() {
            for (int rule = 0; rule < task.rules; rule++) {
                int mark = toldByRule(rule);
                if (mark != NONE) {
                    trail.put(mark, trail.level(), rule);
                    return true;
                }
            }
            for (int cut = 0; cut < cuts.count; cut++) {
                int mark = toldByCut(cut);
                if (mark != NONE) {
                    trail.put(mark, trail.level(), FIRST_CUT + cut);
                    return true;
                }
            }
            return false;
        }

        private int toldByRule(int rule) {
            int room = task.bounds[rule] - least(rule);
            if (room < 0) {
                return NONE;
            }
            for (int x = 0; x < task.numbers; x++) {
                int weight = task.weights[rule][x];
                if (weight > 0) {
                    int k = trail.low[x] + room / weight;
                    if (k < trail.high[x]) {
                        return markOf(x, AT_MOST, k);
                    }
                } else if (weight < 0) {
                    int k = trail.high[x] - room / -weight;
                    if (k > trail.low[x]) {
                        return markOf(x, AT_LEAST, k);
                    }
                }
            }
            return NONE;
        }

        private int toldByCut(int cut) {
            int open = NONE;
            for (int k = 0; k < cuts.sizes[cut]; k++) {
                int mark = cuts.at(cut, k);
                if (!trail.isSo(mark)) {
                    if (open != NONE) {
                        return NONE;
                    }
                    open = mark;
                }
            }
            return open == NONE || trail.isNotSo(open) ? NONE : negated(open);
        }

        boolean isSolved() {
            return theBreak() == NONE && trail.firstOpen() == NONE;
        }

        boolean canMake(int mark) {
            return task.hasNumber(mark / 100) && !trail.isSo(mark) && !trail.isNotSo(mark)
                && theBreak() == NONE;
        }

        boolean canLearn() {
            return !hopeless && theBreak() != NONE;
        }

        boolean made(int mark) {
            if (!canMake(mark)) {
                return false;
            }
            trail.put(mark, trail.level() + 1, MADE);
            drawIn();
            return true;
        }

        void left() {
            trail.cutAbove(trail.level() - 1);
            drawIn();
        }

        // A trail has fewer marks than there can be cuts: one of them is no reason.
        void forgetFirstFree() {
            for (int cut = 0; cut < cuts.count; cut++) {
                if (!trail.hasReason(FIRST_CUT + cut)) {
                    cuts.forget(cut);
                    trail.lowerReasonsAbove(FIRST_CUT + cut);
                    return;
                }
            }
        }
    }

    /** Traces a break back along the trail. */
    private static final class Tracer {
        // The set, and the why looked up last: of each number and side a place on the trail.
        final int[] set = new int[MOST_IN_SET];
        final int[] why = new int[MOST_IN_SET];

        int countWhy(State state, int place) {
            lookUpWhy(state, state.trail.reasons[place], place, state.trail.marks[place]);
            int count = 0;
            for (int row = 0; row < MOST_IN_SET; row++) {
                if (why[row] != NOWHERE) {
                    count++;
                }
            }
            return count;
        }

        // How many marks are in the cut; 0: there is no hope. Asked only when something breaks.
        int learnt(State state) {
            for (int row = 0; row < MOST_IN_SET; row++) {
                set[row] = NOWHERE;
            }
            lookUpWhy(state, state.theBreak(), state.trail.size, NONE);
            takeWhyIn(state.trail);
            for (int turn = 0; turn < MOST_MARKS; turn++) {
                if (!traceLast(state)) {
                    break;
                }
            }
            int last = greatestBelow(MOST_MARKS);
            if (last == NOWHERE) {
                state.hopeless = true;
                return 0;
            }
            int other = greatestBelow(last);
            int level = other == NOWHERE ? 0 : state.trail.levels[other];
            int size = addCut(state);
            state.trail.cutAbove(level);
            state.drawIn();
            return size;
        }

        // Levels grow along the trail: the last two of the set have its greatest levels.
        private boolean traceLast(State state) {
            Trail trail = state.trail;
            int last = greatestBelow(MOST_MARKS);
            int other = greatestBelow(last);
            if (other == NOWHERE || trail.levels[other] != trail.levels[last]) {
                return false;
            }
            set[sideRow(trail.marks[last])] = NOWHERE;
            lookUpWhy(state, trail.reasons[last], last, trail.marks[last]);
            takeWhyIn(trail);
            return true;
        }

        private int greatestBelow(int end) {
            int greatest = NOWHERE;
            for (int row = 0; row < MOST_IN_SET; row++) {
                if (set[row] < end && set[row] > greatest) {
                    greatest = set[row];
                }
            }
            return greatest;
        }

        private void takeWhyIn(Trail trail) {
            for (int row = 0; row < MOST_IN_SET; row++) {
                int place = why[row];
                if (place != NOWHERE && trail.levels[place] > 0) {
                    set[row] = Math.max(set[row], place);
                }
            }
        }

        // Of the mark that was told by the reason; of a break, with NONE, nothing was told.
        private void lookUpWhy(State state, int reason, int end, int mark) {
            for (int row = 0; row < MOST_IN_SET; row++) {
                why[row] = NOWHERE;
            }
            if (state.task.hasRule(reason)) {
                lookUpByRule(state, reason, end, mark);
            } else if (state.cuts.has(reason - FIRST_CUT)) {
                lookUpByCut(state, reason - FIRST_CUT, end, mark);
            }
        }

        private void lookUpByRule(State state, int rule, int end, int mark) {
            int own = mark == NONE ? NONE : mark / 100;
            for (int x = 0; x < state.task.numbers; x++) {
                int weight = state.task.weights[rule][x];
                if (weight != 0 && x != own) {
                    int side = weight > 0 ? AT_LEAST : AT_MOST;
                    why[x * 2 + side] = state.trail.lastAhead(end, x, side);
                }
            }
        }

        private void lookUpByCut(State state, int cut, int end, int mark) {
            for (int k = 0; k < state.cuts.sizes[cut]; k++) {
                int other = state.cuts.at(cut, k);
                if (mark == NONE || negated(other) != mark) {
                    why[sideRow(other)] = state.trail.lastAhead(end, other / 100, other / 10 % 10);
                }
            }
        }

        private int addCut(State state) {
            Trail trail = state.trail;
            if (state.cuts.count >= MOST_CUTS) {
                state.forgetFirstFree();
            }
            state.cuts.addEmpty();
            int size = 0;
            for (int place = 0; place < trail.size; place++) {
                if (set[sideRow(trail.marks[place])] == place) {
                    state.cuts.putInLast(trail.marks[place]);
                    size++;
                }
            }
            return size;
        }
    }

    /** How it was ahead of each act. */
    private static final class Acts {
        final State[] before = new State[MOST_ACTS];
        int count = 0;

        Acts(Task task) {
            for (int i = 0; i < MOST_ACTS; i++) {
                before[i] = new State(task);
            }
        }

        void remember(State state) {
            if (count >= MOST_ACTS) {
                forgetFirst();
            }
            before[count].copy(state);
            count++;
        }

        // The first one's rows go behind the others, to be written over.
        private void forgetFirst() {
            State first = before[0];
            for (int i = 1; i < MOST_ACTS; i++) {
                before[i - 1] = before[i];
            }
            before[MOST_ACTS - 1] = first;
            count = MOST_ACTS - 1;
        }

        void takeBack(State state) {
            if (count > 0) {
                count--;
                state.copy(before[count]);
            }
        }
    }

    /** What was kept. */
    private static final class Slots {
        final State[] kept = new State[SLOTS];
        final boolean[] filled = new boolean[SLOTS];

        Slots(Task task) {
            for (int slot = 0; slot < SLOTS; slot++) {
                kept[slot] = new State(task);
            }
        }

        boolean has(int slot) {
            return slot >= 0 && slot < SLOTS;
        }

        void put(int slot, State state) {
            kept[slot].copy(state);
            filled[slot] = true;
        }

        void empty() {
            for (int slot = 0; slot < SLOTS; slot++) {
                filled[slot] = false;
            }
        }
    }

    /** What was seen of an unknown way. */
    private static final class Seen {
        final int[] marks = new int[MOST_SEEN];
        final boolean[] wasSo = new boolean[MOST_SEEN];
        int count = 0;

        void put(int mark, boolean so) {
            if (count < MOST_SEEN) {
                marks[count] = mark;
                wasSo[count] = so;
                count++;
            }
        }
    }

    /** Counts ways in a box: all that is asked of ways holds single numbers to bounds. */
    private static final class Ways {
        final Task task;
        final int[] from = new int[MOST_NUMBERS];
        final int[] to = new int[MOST_NUMBERS];

        Ways(Task task) {
            this.task = task;
        }

        int all() {
            openBox();
            return countInBox();
        }

        int along(Trail trail) {
            for (int x = 0; x < MOST_NUMBERS; x++) {
                from[x] = trail.low[x];
                to[x] = trail.high[x];
            }
            return countInBox();
        }

        int within(Cuts cuts, int cut) {
            openBox();
            for (int k = 0; k < cuts.sizes[cut]; k++) {
                hold(cuts.at(cut, k), true);
            }
            return countInBox();
        }

        int bySeen(Seen seen) {
            openBox();
            for (int i = 0; i < seen.count; i++) {
                if (task.hasNumber(seen.marks[i] / 100)) {
                    hold(seen.marks[i], seen.wasSo[i]);
                }
            }
            return countInBox();
        }

        int leastOfAll(int x) {
            openBox();
            for (int k = 0; k <= task.tops[x]; k++) {
                from[x] = k;
                to[x] = k;
                if (countInBox() > 0) {
                    return k;
                }
            }
            return NONE;
        }

        private void openBox() {
            for (int x = 0; x < MOST_NUMBERS; x++) {
                from[x] = 0;
                to[x] = task.tops[x];
            }
        }

        private void hold(int mark, boolean so) {
            int x = mark / 100;
            int k = mark % 10;
            boolean atLeast = mark / 10 % 10 == AT_LEAST;
            if (atLeast && so) {
                from[x] = Math.max(from[x], k);
            } else if (atLeast) {
                to[x] = Math.min(to[x], k - 1);
            } else if (so) {
                to[x] = Math.min(to[x], k);
            } else {
                from[x] = Math.max(from[x], k + 1);
            }
        }

        private int countInBox() {
            int count = 0;
            for (int a = from[0]; a <= to[0]; a++) {
                for (int b = from[1]; b <= to[1]; b++) {
                    for (int c = from[2]; c <= to[2]; c++) {
                        count += countOfLast(a, b, c);
                    }
                }
            }
            return count;
        }

        // Each rule leaves the last number a stretch of values: none needs to be tried.
        private int countOfLast(int a, int b, int c) {
            int first = from[3];
            int last = to[3];
            for (int rule = 0; rule < task.rules; rule++) {
                int[] w = task.weights[rule];
                int room = task.bounds[rule] - w[0] * a - w[1] * b - w[2] * c;
                if (w[3] > 0) {
                    last = Math.min(last, Math.floorDiv(room, w[3]));
                } else if (w[3] < 0) {
                    first = Math.max(first, -Math.floorDiv(room, -w[3]));
                } else if (room < 0) {
                    return 0;
                }
            }
            return Math.max(0, last - first + 1);
        }
    }

    /** Shares and chances, by the ways there are when a set of rules is lost. */
    private static final class Chances {
        final Task task;
        final int[] waysByLost = new int[RULE_SETS];
        // The sets are counted when they are first asked for behind a task.
        boolean counted = false;

        Chances(Task task) {
            this.task = task;
        }

        int shareOf(int rule, boolean upper) {
            countAll();
            int own = 1 << rule;
            int sum = 0;
            for (int lost = 0; lost < 1 << task.rules; lost++) {
                if ((lost & own) != 0) {
                    int behind = Integer.bitCount(lost) - 1;
                    int ahead = task.rules - 1 - behind;
                    int fewer = waysByLost[lost] - waysByLost[lost ^ own];
                    sum += ORDERS[ahead] * ORDERS[behind] * fewer;
                }
            }
            return toldOf(sum, ORDERS[task.rules], upper);
        }

        int chanceOf(int v, int tenths, boolean upper) {
            countAll();
            int sum = 0;
            int whole = 1;
            for (int rule = 0; rule < task.rules; rule++) {
                whole *= 10;
            }
            for (int lost = 0; lost < 1 << task.rules; lost++) {
                if (waysByLost[lost] >= v) {
                    sum += weightOf(lost, tenths);
                }
            }
            return toldOf(sum, whole, upper);
        }

        private int weightOf(int lost, int tenths) {
            int weight = 1;
            for (int rule = 0; rule < task.rules; rule++) {
                weight *= (lost >> rule & 1) == 1 ? tenths : 10 - tenths;
            }
            return weight;
        }

        private void countAll() {
            if (counted) {
                return;
            }
            for (int set = 0; set < RULE_SETS; set++) {
                waysByLost[set] = 0;
            }
            for (int a = 0; a <= task.tops[0]; a++) {
                for (int b = 0; b <= task.tops[1]; b++) {
                    for (int c = 0; c <= task.tops[2]; c++) {
                        for (int d = 0; d <= task.tops[3]; d++) {
                            waysByLost[brokenBy(a, b, c, d)]++;
                        }
                    }
                }
            }
            addSmallerSets();
            counted = true;
        }

        private int brokenBy(int a, int b, int c, int d) {
            int broken = 0;
            for (int rule = 0; rule < task.rules; rule++) {
                int[] w = task.weights[rule];
                if (w[0] * a + w[1] * b + w[2] * c + w[3] * d > task.bounds[rule]) {
                    broken |= 1 << rule;
                }
            }
            return broken;
        }

        // Values are a way if all the rules that they break are lost, and maybe others too.
        private void addSmallerSets() {
            for (int rule = 0; rule < MOST_RULES; rule++) {
                for (int set = 0; set < RULE_SETS; set++) {
                    if ((set >> rule & 1) == 1) {
                        waysByLost[set] += waysByLost[set ^ 1 << rule];
                    }
                }
            }
        }

        private static int toldOf(int above, int below, boolean upper) {
            int divisor = Math.max(1, greatestDivisor(above, below));
            return upper ? above / divisor : below / divisor;
        }

        // Euclid's steps on ints are fewer than fifty.
        private static int greatestDivisor(int above, int below) {
            int a = above;
            int b = below;
            for (int turn = 0; turn < 100 && b != 0; turn++) {
                int rest = a % b;
                a = b;
                b = rest;
            }
            return a;
        }
    }
}
