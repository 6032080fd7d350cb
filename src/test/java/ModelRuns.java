import java.lang.reflect.Method;
import java.math.BigInteger;
import java.util.ArrayDeque;
import java.util.ArrayList;
import java.util.Arrays;
import java.util.Deque;
import java.util.HashMap;
import java.util.List;
import java.util.Map;
import java.util.Random;
import java.util.Set;
import java.util.regex.Matcher;
import java.util.regex.Pattern;

/**
 * Long runs of calls, each answer held against a second, slow writing of the document:
 * bounds are looked up on the trail, ways are tried one by one, orders are gone through.
 */
public final class ModelRuns {
    private static final int RUNS = 900;
    private static final int CALLS = 160;
    private static final int MOST_CALLS = 512;
    /** Above this a new object would have few calls left behind all that is done again on it. */
    private static final int MOST_DONE = 400;
    private static int wrong = 0;
    private static int mostCuts = 0;
    private static int forgotten = 0;
    private static int hopelessRuns = 0;
    private static int jumps = 0;
    private static int cutReasons = 0;
    private static int sameSideWhy = 0;

    /** The runs that the tests of edges take known answers from; s is one step run. */
    private static final String[][] KNOWN = {
        {"L46667r2b2b+01rb2b2-01", "s ".repeat(100)},
        {"L44323r1ba1-04rb23c+00", "012 201 211 311 l v 311 v v 103 l v"},
        {"L3132r132+06ra2b+00", "010 102 l v 102 l"},
        {"L3233rc21+00r3cb+01r3cb-05", "001 201 102 l l l l"},
        {"L41434raa32+01r21cc-04", "102 112 l l l"},
        {"L43344ra0ac-02rc12b+01r32c2-04r1cbb-01", "313 312 011 102 l 101 l v 102 l"},
        {"L49999ra111+01r0b01-02rbb3a-03r001a-01r01c2+02ra3ac+03", "s l"},
        {"L49999r33c0-00rb002-01r002b+01r0b02+04", "l"},
        {"L49999r11a0+09r1110+26", "301 302 303 304 305 306 307 308 309 001 002 003 004 005 006 007 008 009 "
            + "101 102 103 104 105 106 107 108 109 l"},
        {"L46687rbb2b+03r22b2-03",
            "105 010 106 l l l 207 002 103 003 l v v v 110 010 l 314 003 207 v v v v 305 v 012 101 215 103 l 204 310 "
            + "102 l l 205 311 l l l l 301 313 205 208 113 002 l l l 214 l 312 002 311 l l v v v v 112 010 216 206 l l "
            + "304 v v v 217 312 101 216 v v v v 112 313 003 301 111 302 v v v v v v 215 v 301 213 l 111 311 002 012 l "
            + "013 l 101 l l 214 l l 312 002 207 101 l l v v v 011 315 113 204 304 217 101 l l v v v v v 213 v 015 013 "
            + "002 101 311 v v v v v 203 301 004 l 002 208 101 l l 207 102 l l l 110 l 111 206 001 l l l 206 207 103 "
            + "104 l l 217 l l v v 214 v 310 101 011 206 l" + " l"},
        {"L49999r2b2b+03rb2b2-03", "s ".repeat(191) + "v 109 l"},
    };

    public static void main(String[] args) {
        for (int run = 0; run < KNOWN.length; run++) {
            new Run(-1 - run).goKnown(KNOWN[run][0], KNOWN[run][1]);
        }
        for (int run = 0; run < RUNS && wrong < 20; run++) {
            new Run(run).go();
        }
        System.out.println("most cuts " + mostCuts + ", forgotten " + forgotten + ", hopeless "
            + hopelessRuns + ", jumps over levels " + jumps + ", told by cuts " + cutReasons
            + ", cuts with both sides of a number " + sameSideWhy);
        if (mostCuts < 40 || forgotten == 0 || hopelessRuns == 0 || jumps == 0 || cutReasons == 0) {
            System.out.println("the runs do not reach what they are for");
            wrong++;
        }
        System.out.println(wrong == 0 ? "all answers are as due" : wrong + " answers are not as due");
        if (wrong != 0) {
            System.exit(1);
        }
    }

    /** A call, told as a text such as make(0, 1, 2); whether it may change something. */
    private record Deed(Method method, Object[] with, boolean changes) {
        static final Map<String, Deed> TOLD = new HashMap<>();
        static final Set<String> CHANGING = Set.of("write", "wipe", "task", "make", "learn", "leave", "run", "undo",
            "see", "unsee", "seed", "drawn", "keep", "again");

        static Deed of(String call) {
            return TOLD.computeIfAbsent(call, Deed::read);
        }

        private static Deed read(String call) {
            String name = call.substring(0, call.indexOf('('));
            String inside = call.substring(name.length() + 1, call.length() - 1);
            String[] told = inside.isEmpty() ? new String[0] : inside.split(", ");
            for (Method method : CutTrail.class.getMethods()) {
                if (method.getName().equals(name) && method.getParameterCount() == told.length) {
                    return new Deed(method, arguments(method.getParameterTypes(), told), CHANGING.contains(name));
                }
            }
            throw new IllegalArgumentException("no such call: " + call);
        }

        private static Object[] arguments(Class<?>[] types, String[] told) {
            Object[] with = new Object[told.length];
            for (int i = 0; i < told.length; i++) {
                if (types[i] == boolean.class) {
                    with[i] = Boolean.valueOf(told[i]);
                } else if (types[i] == long.class) {
                    with[i] = Long.valueOf(told[i]);
                } else {
                    with[i] = Integer.valueOf(told[i]);
                }
            }
            return with;
        }

        long on(CutTrail trail) {
            try {
                return ((Number) method.invoke(trail, with)).longValue();
            } catch (ReflectiveOperationException thrown) {
                throw new IllegalStateException(method + " of " + Arrays.toString(with), thrown);
            }
        }
    }

    /** One object and one model, told the same. */
    private static final class Run {
        final int run;
        final Random random;
        CutTrail real = new CutTrail();
        int used = 0;
        final List<Deed> done = new ArrayList<>();
        final Model model = new Model();
        final List<String> calls = new ArrayList<>();

        Run(int run) {
            this.run = run;
            this.random = new Random(7919L * run + 5);
        }

        void due(String call, long want) {
            calls.add(call);
            if (used == MOST_CALLS) {
                doAgainOnANewObject();
            }
            Deed deed = Deed.of(call);
            long got = deed.on(real);
            used++;
            if (deed.changes()) {
                done.add(deed);
            }
            if (got != want) {
                wrong++;
                System.out.println("run " + run + ": " + call + " answered " + got + ", due is " + want
                    + " behind " + calls.subList(Math.max(0, calls.size() - 25), calls.size()));
            }
        }

        // Nothing is promised of an object behind its 512th call.
        private void doAgainOnANewObject() {
            real = new CutTrail();
            for (Deed deed : done) {
                deed.on(real);
            }
            used = done.size();
        }

        void go() {
            if (run % 9 != 0) {
                tell(someTask());
            }
            for (int i = 0; i < CALLS && done.size() < MOST_DONE && wrong < 20; i++) {
                oneCall();
                if (random.nextInt(4) == 0) {
                    lookAtAll();
                }
            }
            lookAtAll();
        }

        void goKnown(String text, String moves) {
            tell(text);
            lookAtAll();
            for (String move : moves.trim().split(" ")) {
                if (move.equals("l")) {
                    due("learn()", model.learn());
                } else if (move.equals("v")) {
                    due("leave()", model.leave());
                } else if (move.equals("s")) {
                    due("run(1)", model.run(1));
                } else {
                    int x = move.charAt(0) - '0', side = move.charAt(1) - '0', k = move.charAt(2) - '0';
                    due("make(" + x + ", " + side + ", " + k + ")", model.make(x, side, k));
                }
                lookAtAll();
            }
        }

        void tell(String text) {
            due("wipe()", model.wipe());
            for (char letter : text.toCharArray()) {
                due("write(" + (int) letter + ")", model.write(letter));
            }
            due("fault()", model.fault());
            due("task()", model.task());
        }

        String someTask() {
            boolean hard = run % 3 == 0;
            int n = hard ? 3 + random.nextInt(2) : 1 + random.nextInt(4);
            StringBuilder text = new StringBuilder("L").append(n);
            for (int x = 0; x < n; x++) {
                text.append(hard ? 4 + random.nextInt(6) : random.nextInt(10));
            }
            if (hard) {
                return text.append(sumThatCanNotBe(n)).toString();
            }
            int rules = random.nextInt(7);
            for (int rule = 0; rule < rules; rule++) {
                text.append('r');
                for (int x = 0; x < n; x++) {
                    text.append("0123abc".charAt(random.nextInt(7)));
                }
                int bound = random.nextInt(31);
                text.append(random.nextInt(3) == 0 ? '-' : '+');
                bound = random.nextBoolean() ? bound / 3 : bound;
                text.append(bound / 10).append(bound % 10);
            }
            return text.toString();
        }

        // A sum of even weights that is to be odd, or one of threes that is to be one more:
        // bounds alone hardly tell it, so much is learnt.
        String sumThatCanNotBe(int n) {
            String plus = random.nextInt(3) == 0 ? "3" : "2";
            String minus = plus.equals("3") ? "c" : "b";
            StringBuilder up = new StringBuilder("r");
            StringBuilder down = new StringBuilder("r");
            for (int x = 0; x < n; x++) {
                boolean more = random.nextInt(5) == 0 ? random.nextBoolean() : x % 2 == 0;
                up.append(more ? plus : minus);
                down.append(more ? minus : plus);
            }
            int odd = plus.equals("3") ? 3 * random.nextInt(3) + 1 : 2 * random.nextInt(4) + 1;
            StringBuilder text = new StringBuilder();
            text.append(up).append("+0").append(odd).append(down).append("-0").append(odd);
            for (int more = random.nextInt(3); more > 0; more--) {
                text.append('r');
                for (int x = 0; x < n; x++) {
                    text.append("0123abc".charAt(random.nextInt(7)));
                }
                text.append('+').append(random.nextInt(3)).append(random.nextInt(10));
            }
            return text.toString();
        }

        void oneCall() {
            switch (random.nextInt(26)) {
                case 0: case 1: case 2: case 3: case 4: {
                    int x = arg(0, model.n - 1), side = arg(0, 1), k = arg(0, 9);
                    due("make(" + x + ", " + side + ", " + k + ")", model.make(x, side, k));
                    break;
                }
                case 5: case 6: case 7: due("learn()", model.learn()); break;
                case 8: due("leave()", model.leave()); break;
                case 9: case 10: case 11: {
                    int n = random.nextInt(3) == 0 ? arg(1, 50) : arg(1, 4);
                    due("run(" + n + ")", model.run(n));
                    break;
                }
                case 12: due("undo()", model.undo()); break;
                case 13: case 14: case 15: judge(); break;
                case 16: {
                    int x = arg(0, model.n - 1), side = arg(0, 1), k = arg(0, 9), was = arg(0, 1);
                    due("see(" + x + ", " + side + ", " + k + ", " + was + ")",
                        model.see(x, side, k, was));
                    due("which()", model.which());
                    break;
                }
                case 17:
                    if (random.nextInt(4) == 0) {
                        due("unsee()", model.unsee());
                    }
                    due("which()", model.which());
                    break;
                case 18: {
                    int rule = arg(0, model.weights.size() - 1);
                    boolean upper = random.nextBoolean();
                    due("share(" + rule + ", " + upper + ")", model.share(rule, upper));
                    break;
                }
                case 19: {
                    int v = random.nextInt(3) == 0 ? arg(0, 9999) : arg(0, 60), x = arg(0, 10);
                    boolean upper = random.nextBoolean();
                    due("chance(" + v + ", " + x + ", " + upper + ")",
                        model.chance(v, x, upper));
                    break;
                }
                case 20: {
                    long v = random.nextLong();
                    due("seed(" + v + ")", model.seed(v));
                    break;
                }
                case 21: case 22: {
                    int m = arg(1, 10);
                    due("drawn(" + m + ")", model.drawn(m));
                    break;
                }
                case 23: {
                    int slot = arg(0, 1);
                    due("keep(" + slot + ")", model.keep(slot));
                    break;
                }
                case 24: {
                    int slot = arg(0, 1);
                    due("again(" + slot + ")", model.again(slot));
                    break;
                }
                default: rareCall();
            }
        }

        void rareCall() {
            switch (random.nextInt(4)) {
                case 0: {
                    String signs = "L123490abcrd+-";
                    int letter = random.nextInt(5) == 0 ? random.nextInt(300) - 20
                        : signs.charAt(random.nextInt(signs.length()));
                    due("write(" + letter + ")", model.write(letter));
                    due("fault()", model.fault());
                    break;
                }
                case 1: spoil(someTask()); break;
                case 2: if (random.nextInt(3) == 0) { tell(someTask()); } break;
                default: due("task()", model.task());
            }
        }

        void spoil(String text) {
            char[] letters = text.toCharArray();
            letters[random.nextInt(letters.length)] = "L059abcr+-3".charAt(random.nextInt(11));
            String spoilt = new String(letters).substring(0, 1 + random.nextInt(letters.length));
            tell(random.nextBoolean() ? spoilt : new String(letters));
        }

        void judge() {
            int n = arg(1, 4);
            long row = 0;
            World ahead = model.world.copy();
            for (int i = 0; i < Math.max(1, Math.min(n, 4)); i++) {
                row = row * 1000 + likelyDoing(ahead);
            }
            if (random.nextInt(20) == 0) {
                row = random.nextLong();
            }
            due("judge(" + n + ", " + row + ")", model.judge(n, row));
        }

        int likelyDoing(World ahead) {
            int x = random.nextInt(model.n);
            int doing;
            if (random.nextInt(6) == 0) {
                doing = random.nextInt(1000);
            } else {
                switch (random.nextInt(6)) {
                    case 0: doing = 400 + ahead.trail.size(); break;
                    case 1: doing = 500 + 10 * x + model.low(ahead, x); break;
                    case 2: doing = 600 + 10 * x + model.high(ahead, x); break;
                    case 3: doing = 700 + ahead.cuts.size(); break;
                    case 4: doing = 300; break;
                    default: doing = 100 * (1 + random.nextInt(2)) + 10 * x + random.nextInt(10);
                }
            }
            model.doing(ahead, doing);
            return doing;
        }

        int arg(int least, int most) {
            switch (random.nextInt(25)) {
                case 0: return least - 1;
                case 1: return most + 1;
                case 2: return random.nextInt();
                default: return most < least ? least : least + random.nextInt(most - least + 1);
            }
        }

        void lookAtAll() {
            for (int what = -1; what <= 13; what++) {
                due("about(" + what + ")", model.about(what));
            }
            for (int x = -1; x <= 4; x++) {
                for (int what = -1; what <= 4; what++) {
                    due("number(" + x + ", " + what + ")", model.number(x, what));
                }
            }
            for (int rule = -1; rule <= 6; rule++) {
                for (int what = -1; what <= 6; what++) {
                    due("rule(" + rule + ", " + what + ")", model.rule(rule, what));
                }
            }
            for (int i = -1; i <= 36; i++) {
                for (int what = -1; what <= 4; what++) {
                    due("mark(" + i + ", " + what + ")", model.mark(i, what));
                }
            }
            for (int cut = -1; cut <= 40; cut++) {
                for (int k = -1; k <= 8; k++) {
                    due("cut(" + cut + ", " + k + ")", model.cut(cut, k));
                }
                due("follows(" + cut + ")", model.follows(cut));
            }
            calls.removeIf(call -> call.startsWith("about") || call.startsWith("number")
                || call.startsWith("rule") || call.startsWith("mark") || call.startsWith("cut")
                || call.startsWith("follows"));
        }
    }

    /** A mark; on the trail with its level and reason. */
    private record Mark(int x, int side, int k, int level, int reason) {
        int told() {
            return 100 * x + 10 * side + k;
        }

        Mark negated() {
            return side == 0 ? new Mark(x, 1, k - 1, 0, 0) : new Mark(x, 0, k + 1, 0, 0);
        }

        boolean sameBound(Mark other) {
            return x == other.x && side == other.side && k == other.k;
        }

        boolean sameSide(Mark other) {
            return x == other.x && side == other.side;
        }

        boolean holds(int[] way) {
            return side == 0 ? way[x] >= k : way[x] <= k;
        }
    }

    private static final class World {
        List<Mark> trail = new ArrayList<>();
        List<List<Mark>> cuts = new ArrayList<>();
        boolean hopeless = false;

        World copy() {
            World other = new World();
            other.trail.addAll(trail);
            other.cuts.addAll(cuts);
            other.hopeless = hopeless;
            return other;
        }

        int level() {
            return trail.isEmpty() ? 0 : trail.get(trail.size() - 1).level();
        }
    }

    private static final class Model {
        static final Pattern TASK = Pattern.compile(
            "L(1[0-9]{1}(r[0-3a-c]{1}[+-]([0-2][0-9]|30)){0,6}"
            + "|2[0-9]{2}(r[0-3a-c]{2}[+-]([0-2][0-9]|30)){0,6}"
            + "|3[0-9]{3}(r[0-3a-c]{3}[+-]([0-2][0-9]|30)){0,6}"
            + "|4[0-9]{4}(r[0-3a-c]{4}[+-]([0-2][0-9]|30)){0,6})");

        String text = "";
        int n = 1;
        int[] tops = {9};
        List<int[]> weights = new ArrayList<>();
        List<Integer> bounds = new ArrayList<>();
        World world = new World();
        Deque<World> acts = new ArrayDeque<>();
        World[] slots = new World[2];
        List<int[]> seen = new ArrayList<>();
        long seed = 0;
        Map<Integer, List<int[]>> waysBySet = new HashMap<>();

        // ---- the task

        int write(int letter) {
            if (letter < 0 || letter > 255) {
                return -2;
            }
            if (text.length() == 60) {
                return -4;
            }
            text += (char) letter;
            return text.length();
        }

        int wipe() {
            int was = text.length();
            text = "";
            return was;
        }

        int fault() {
            for (int i = 1; i <= text.length(); i++) {
                Matcher matcher = TASK.matcher(text.substring(0, i));
                if (!matcher.matches() && !matcher.hitEnd()) {
                    return i - 1;
                }
            }
            return TASK.matcher(text).matches() ? -9 : text.length();
        }

        int task() {
            if (fault() != -9) {
                return -3;
            }
            n = Integer.parseInt(text.substring(1, 2));
            tops = text.substring(2, 2 + n).chars().map(c -> c - '0').toArray();
            weights.clear();
            bounds.clear();
            String[] parts = text.substring(2 + n).split("r");
            for (String part : parts) {
                if (!part.isEmpty()) {
                    weights.add(part.substring(0, n).chars().map(c -> "cba0123".indexOf(c) - 3).toArray());
                    bounds.add(Integer.parseInt(part.substring(n)));
                }
            }
            world = new World();
            acts.clear();
            slots = new World[2];
            waysBySet.clear();
            drawIn(world);
            return weights.size();
        }

        int about(int what) {
            switch (what) {
                case 0: return n;
                case 1: return weights.size();
                case 2: return world.trail.size();
                case 3: return world.level();
                case 4: return theBreak(world);
                case 5: return world.cuts.size();
                case 6: return world.hopeless ? 1 : 0;
                case 7: return theBreak(world) == -9 && open(world) < 0 ? 1 : 0;
                case 8: return allWays().size();
                case 9: return (int) allWays().stream()
                    .filter(way -> world.trail.stream().allMatch(mark -> mark.holds(way))).count();
                case 10: return acts.size();
                case 11: return seen.size();
                case 12: return text.length();
                default: return -2;
            }
        }

        int number(int x, int what) {
            if (x < 0 || x >= n) {
                return -1;
            }
            switch (what) {
                case 0: return low(world, x);
                case 1: return high(world, x);
                case 2: return tops[x];
                case 3: return allWays().stream().mapToInt(way -> way[x]).min().orElse(-9);
                default: return -2;
            }
        }

        int rule(int rule, int what) {
            if (rule < 0 || rule >= weights.size()) {
                return -1;
            }
            if (what >= 0 && what < n) {
                return weights.get(rule)[what] + 10;
            }
            return what == 4 ? bounds.get(rule) + 100 : what == 5 ? least(world, rule) + 1000 : -2;
        }

        int mark(int i, int what) {
            if (what < 0 || what > 3) {
                return -2;
            }
            if (i < 0 || i >= world.trail.size()) {
                return -9;
            }
            Mark mark = world.trail.get(i);
            return what == 0 ? mark.told() : what == 1 ? mark.level() : what == 2 ? mark.reason()
                : why(world, i).size();
        }

        int cut(int cut, int k) {
            if (cut < 0 || cut >= world.cuts.size()) {
                return -1;
            }
            List<Mark> marks = world.cuts.get(cut);
            return k < 0 || k >= marks.size() ? -9 : marks.get(k).told();
        }

        int follows(int cut) {
            if (cut < 0 || cut >= world.cuts.size()) {
                return -1;
            }
            List<Mark> marks = world.cuts.get(cut);
            return allWays().stream().allMatch(way -> marks.stream().anyMatch(mark -> !mark.holds(way))) ? 1 : 0;
        }

        // ---- the trail

        int low(World w, int x) {
            return w.trail.stream().filter(m -> m.x() == x && m.side() == 0).mapToInt(Mark::k).max().orElse(0);
        }

        int high(World w, int x) {
            return w.trail.stream().filter(m -> m.x() == x && m.side() == 1).mapToInt(Mark::k).min().orElse(tops[x]);
        }

        boolean so(World w, Mark m) {
            return m.side() == 0 ? m.k() <= low(w, m.x()) : m.k() >= high(w, m.x());
        }

        boolean notSo(World w, Mark m) {
            return m.side() == 0 ? m.k() > high(w, m.x()) : m.k() < low(w, m.x());
        }

        int open(World w) {
            for (int x = 0; x < n; x++) {
                if (low(w, x) < high(w, x)) {
                    return x;
                }
            }
            return -1;
        }

        int least(World w, int rule) {
            int sum = 0;
            for (int x = 0; x < n; x++) {
                int weight = weights.get(rule)[x];
                sum += weight > 0 ? weight * low(w, x) : weight * high(w, x);
            }
            return sum;
        }

        int theBreak(World w) {
            for (int rule = 0; rule < weights.size(); rule++) {
                if (least(w, rule) > bounds.get(rule)) {
                    return rule;
                }
            }
            for (int cut = 0; cut < w.cuts.size(); cut++) {
                if (w.cuts.get(cut).stream().allMatch(m -> so(w, m))) {
                    return 10 + cut;
                }
            }
            return -9;
        }

        void drawIn(World w) {
            while (theBreak(w) == -9) {
                Mark told = firstTold(w);
                if (told == null) {
                    return;
                }
                cutReasons += told.reason() >= 10 ? 1 : 0;
                w.trail.add(told);
            }
        }

        Mark firstTold(World w) {
            for (int rule = 0; rule < weights.size(); rule++) {
                int room = bounds.get(rule) - least(w, rule);
                for (int x = 0; x < n; x++) {
                    int weight = weights.get(rule)[x];
                    if (weight > 0 && low(w, x) + room / weight < high(w, x)) {
                        return new Mark(x, 1, low(w, x) + room / weight, w.level(), rule);
                    }
                    if (weight < 0 && high(w, x) - room / -weight > low(w, x)) {
                        return new Mark(x, 0, high(w, x) - room / -weight, w.level(), rule);
                    }
                }
            }
            for (int cut = 0; cut < w.cuts.size(); cut++) {
                List<Mark> left = w.cuts.get(cut).stream().filter(m -> !so(w, m)).toList();
                if (left.size() == 1 && !notSo(w, left.get(0))) {
                    Mark told = left.get(0).negated();
                    return new Mark(told.x(), told.side(), told.k(), w.level(), 10 + cut);
                }
            }
            return null;
        }

        void addLast(World w, List<Integer> places, int end, int x, int side) {
            int last = -1;
            for (int i = 0; i < end; i++) {
                if (w.trail.get(i).x() == x && w.trail.get(i).side() == side) {
                    last = i;
                }
            }
            if (last >= 0) {
                places.add(last);
            }
        }

        List<Integer> whyBy(World w, int reason, int end, Mark told) {
            List<Integer> places = new ArrayList<>();
            if (reason >= 10) {
                for (Mark mark : w.cuts.get(reason - 10)) {
                    if (told == null || !mark.negated().sameBound(told)) {
                        addLast(w, places, end, mark.x(), mark.side());
                        sameSideWhy += told != null && mark.sameSide(told) ? 1 : 0;
                    }
                }
            } else if (reason >= 0) {
                for (int x = 0; x < n; x++) {
                    int weight = weights.get(reason)[x];
                    if (weight != 0 && (told == null || told.x() != x)) {
                        addLast(w, places, end, x, weight > 0 ? 0 : 1);
                    }
                }
            }
            return places;
        }

        List<Integer> why(World w, int place) {
            Mark mark = w.trail.get(place);
            return whyBy(w, mark.reason(), place, mark);
        }

        void join(World w, List<Integer> set, List<Integer> more) {
            for (int place : more) {
                Mark mark = w.trail.get(place);
                if (mark.level() > 0 && set.stream().noneMatch(p -> p >= place && w.trail.get(p).sameSide(mark))) {
                    set.removeIf(p -> w.trail.get(p).sameSide(mark));
                    set.add(place);
                }
            }
        }

        int learnt(World w) {
            List<Integer> set = new ArrayList<>();
            join(w, set, whyBy(w, theBreak(w), w.trail.size(), null));
            while (true) {
                int greatest = set.stream().mapToInt(p -> w.trail.get(p).level()).max().orElse(0);
                List<Integer> top = set.stream().filter(p -> w.trail.get(p).level() == greatest).sorted().toList();
                if (top.size() < 2) {
                    break;
                }
                Integer last = top.get(top.size() - 1);
                set.remove(last);
                join(w, set, why(w, last));
            }
            if (set.isEmpty()) {
                w.hopeless = true;
                hopelessRuns++;
                return 0;
            }
            List<Mark> marks = set.stream().sorted().map(w.trail::get).toList();
            if (w.cuts.size() == 40) {
                forgetOne(w);
            }
            w.cuts.add(marks);
            mostCuts = Math.max(mostCuts, w.cuts.size());
            int[] levels = marks.stream().mapToInt(Mark::level).sorted().toArray();
            int back = levels.length < 2 ? 0 : levels[levels.length - 2];
            jumps += w.level() - back > 1 ? 1 : 0;
            w.trail.removeIf(m -> m.level() > back);
            drawIn(w);
            return marks.size();
        }

        void forgetOne(World w) {
            for (int cut = 0; cut < w.cuts.size(); cut++) {
                int reason = 10 + cut;
                if (w.trail.stream().noneMatch(m -> m.reason() == reason)) {
                    w.cuts.remove(cut);
                    w.trail.replaceAll(m -> m.reason() > reason
                        ? new Mark(m.x(), m.side(), m.k(), m.level(), m.reason() - 1) : m);
                    forgotten++;
                    return;
                }
            }
        }

        boolean canMake(World w, Mark m) {
            return m.x() < n && theBreak(w) == -9 && !so(w, m) && !notSo(w, m);
        }

        void made(World w, Mark m) {
            w.trail.add(new Mark(m.x(), m.side(), m.k(), w.level() + 1, -1));
            drawIn(w);
        }

        // ---- acts

        void remember() {
            if (acts.size() == 14) {
                acts.removeFirst();
            }
            acts.addLast(world.copy());
        }

        int make(int x, int side, int k) {
            if (x < 0 || x >= n) {
                return -1;
            }
            if (side < 0 || side > 1 || k < 0 || k > 9) {
                return -2;
            }
            Mark mark = new Mark(x, side, k, 0, 0);
            if (!canMake(world, mark)) {
                return -3;
            }
            remember();
            made(world, mark);
            return world.trail.size();
        }

        int learn() {
            if (theBreak(world) == -9 || world.hopeless) {
                return -3;
            }
            remember();
            return learnt(world);
        }

        int leave() {
            int level = world.level();
            if (level == 0) {
                return -3;
            }
            remember();
            world.trail.removeIf(m -> m.level() == level);
            drawIn(world);
            return world.level();
        }

        int run(int steps) {
            if (steps < 1 || steps > 50) {
                return -2;
            }
            remember();
            for (int done = 0; done < steps; done++) {
                if (world.hopeless) {
                    return done;
                }
                if (theBreak(world) != -9) {
                    learnt(world);
                    continue;
                }
                int x = open(world);
                if (x < 0) {
                    return done;
                }
                made(world, new Mark(x, 1, low(world, x), 0, 0));
            }
            return steps;
        }

        int undo() {
            if (acts.isEmpty()) {
                return -3;
            }
            world = acts.removeLast();
            return acts.size();
        }

        // ---- asked

        int judge(int count, long row) {
            if (count < 1 || count > 4 || row < 0 || Long.toString(row).length() > 3 * count) {
                return -2;
            }
            String figures = String.format("%0" + 3 * count + "d", row);
            World trial = world.copy();
            for (int i = 0; i < count; i++) {
                if (!doing(trial, Integer.parseInt(figures.substring(3 * i, 3 * i + 3)))) {
                    return i;
                }
            }
            return -9;
        }

        boolean doing(World w, int doing) {
            int kind = doing / 100, x = doing / 10 % 10, k = doing % 10;
            if (kind == 1 || kind == 2) {
                Mark mark = new Mark(x, kind - 1, k, 0, 0);
                if (!canMake(w, mark)) {
                    return false;
                }
                made(w, mark);
                return true;
            }
            if (kind == 3) {
                if (x != 0 || k != 0 || theBreak(w) == -9 || w.hopeless) {
                    return false;
                }
                learnt(w);
                return true;
            }
            return kind == 4 && w.trail.size() == 10 * x + k || kind == 5 && x < n && low(w, x) == k
                || kind == 6 && x < n && high(w, x) == k || kind == 7 && w.cuts.size() == 10 * x + k;
        }

        // ---- seen

        int see(int x, int side, int k, int was) {
            if (x < 0 || x >= n) {
                return -1;
            }
            if (side < 0 || side > 1 || k < 0 || k > 9 || was < 0 || was > 1) {
                return -2;
            }
            if (seen.size() == 6) {
                return -4;
            }
            seen.add(new int[] {x, side, k, was});
            return seen.size();
        }

        int unsee() {
            int was = seen.size();
            seen.clear();
            return was;
        }

        int which() {
            return (int) allWays().stream().filter(way -> seen.stream().allMatch(s -> s[0] >= n
                || new Mark(s[0], s[1], s[2], 0, 0).holds(way) == (s[3] == 1))).count();
        }

        // ---- ways, shares, chances

        List<int[]> allWays() {
            return ways((1 << weights.size()) - 1);
        }

        List<int[]> ways(int rules) {
            return waysBySet.computeIfAbsent(rules, set -> {
                List<int[]> ways = new ArrayList<>();
                addWays(ways, set, new int[n], 0);
                return ways;
            });
        }

        void addWays(List<int[]> ways, int set, int[] values, int x) {
            if (x == n) {
                for (int rule = 0; rule < weights.size(); rule++) {
                    int sum = 0;
                    for (int i = 0; i < n; i++) {
                        sum += weights.get(rule)[i] * values[i];
                    }
                    if ((set >> rule & 1) == 1 && sum > bounds.get(rule)) {
                        return;
                    }
                }
                ways.add(values.clone());
                return;
            }
            for (values[x] = 0; values[x] <= tops[x]; values[x]++) {
                addWays(ways, set, values, x + 1);
            }
        }

        int fraction(BigInteger above, BigInteger below, boolean upper) {
            BigInteger divisor = above.gcd(below);
            return (upper ? above : below).divide(divisor).intValueExact();
        }

        int share(int rule, boolean upper) {
            if (rule < 0 || rule >= weights.size()) {
                return -1;
            }
            List<int[]> orders = new ArrayList<>();
            addOrders(orders, new int[weights.size()], 0, 0);
            long sum = 0;
            for (int[] order : orders) {
                int come = 0;
                for (int next : order) {
                    if (next == rule) {
                        sum += ways(come).size() - ways(come | 1 << rule).size();
                        break;
                    }
                    come |= 1 << next;
                }
            }
            return fraction(BigInteger.valueOf(sum), BigInteger.valueOf(orders.size()), upper);
        }

        void addOrders(List<int[]> orders, int[] order, int length, int used) {
            if (length == order.length) {
                orders.add(Arrays.copyOf(order, length));
                return;
            }
            for (int rule = 0; rule < order.length; rule++) {
                if ((used >> rule & 1) == 0) {
                    order[length] = rule;
                    addOrders(orders, order, length + 1, used | 1 << rule);
                }
            }
        }

        int chance(int v, int x, boolean upper) {
            if (v < 0 || v > 9999 || x < 0 || x > 10) {
                return -2;
            }
            BigInteger sum = BigInteger.ZERO;
            for (int left = 0; left < 1 << weights.size(); left++) {
                if (ways(left).size() >= v) {
                    int stay = Integer.bitCount(left);
                    sum = sum.add(BigInteger.valueOf(10 - x).pow(stay)
                        .multiply(BigInteger.valueOf(x).pow(weights.size() - stay)));
                }
            }
            return fraction(sum, BigInteger.TEN.pow(weights.size()), upper);
        }

        long seed(long v) {
            long was = seed;
            seed = v;
            return was;
        }

        int drawn(int m) {
            if (m < 1 || m > 10) {
                return -2;
            }
            World trial = world.copy();
            int sum = 0;
            for (int i = 0; i < m; i++) {
                seed = seed * 6364136223846793005L + 1442695040888963407L;
                int v = (int) (seed >>> 33);
                Mark mark = new Mark(v % n, v / 4 % 2, v / 8 % 10, 0, 0);
                if (theBreak(trial) != -9) {
                    if (!trial.hopeless) {
                        learnt(trial);
                    }
                } else if (canMake(trial, mark)) {
                    made(trial, mark);
                }
                sum += trial.trail.size();
            }
            return sum;
        }

        // ---- slots

        int keep(int slot) {
            if (slot < 0 || slot > 1) {
                return -1;
            }
            slots[slot] = world.copy();
            return world.trail.size();
        }

        int again(int slot) {
            if (slot < 0 || slot > 1) {
                return -1;
            }
            if (slots[slot] == null) {
                return -3;
            }
            world = slots[slot].copy();
            acts.clear();
            return world.trail.size();
        }
    }
}
