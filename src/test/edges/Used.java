import java.util.ArrayList;
import java.util.List;

/** A new CutTrail whose calls are told when an answer is not as due, and are never more than 512. */
final class Used {
    private static final int MOST_CALLS = 512;
    private static final int TOLD_BACK = 12;

    /** The object that was called last: its calls are told with a wrong answer. */
    static Used last = null;

    private final CutTrail trail = new CutTrail();
    private final List<String> calls = new ArrayList<>();

    Used() {
        last = this;
    }

    int write(int letter) {
        called("write", letter);
        return trail.write(letter);
    }

    int wipe() {
        called("wipe");
        return trail.wipe();
    }

    int fault() {
        called("fault");
        return trail.fault();
    }

    int task() {
        called("task");
        return trail.task();
    }

    int about(int what) {
        called("about", what);
        return trail.about(what);
    }

    int number(int x, int what) {
        called("number", x, what);
        return trail.number(x, what);
    }

    int rule(int rule, int what) {
        called("rule", rule, what);
        return trail.rule(rule, what);
    }

    int mark(int i, int what) {
        called("mark", i, what);
        return trail.mark(i, what);
    }

    int cut(int cut, int k) {
        called("cut", cut, k);
        return trail.cut(cut, k);
    }

    int follows(int cut) {
        called("follows", cut);
        return trail.follows(cut);
    }

    int make(int x, int side, int k) {
        called("make", x, side, k);
        return trail.make(x, side, k);
    }

    int learn() {
        called("learn");
        return trail.learn();
    }

    int leave() {
        called("leave");
        return trail.leave();
    }

    int run(int n) {
        called("run", n);
        return trail.run(n);
    }

    int undo() {
        called("undo");
        return trail.undo();
    }

    int judge(int n, long row) {
        called("judge", n, row);
        return trail.judge(n, row);
    }

    int see(int x, int side, int k, int was) {
        called("see", x, side, k, was);
        return trail.see(x, side, k, was);
    }

    int unsee() {
        called("unsee");
        return trail.unsee();
    }

    int which() {
        called("which");
        return trail.which();
    }

    int share(int rule, boolean upper) {
        called("share", rule, upper);
        return trail.share(rule, upper);
    }

    int chance(int v, int x, boolean upper) {
        called("chance", v, x, upper);
        return trail.chance(v, x, upper);
    }

    long seed(long v) {
        called("seed", v);
        return trail.seed(v);
    }

    int drawn(int m) {
        called("drawn", m);
        return trail.drawn(m);
    }

    int keep(int slot) {
        called("keep", slot);
        return trail.keep(slot);
    }

    int again(int slot) {
        called("again", slot);
        return trail.again(slot);
    }

    // ---- several calls at once

    /** Each letter of the text is written behind what is there. */
    Used writes(String text) {
        for (char letter : text.toCharArray()) {
            write(letter);
        }
        return this;
    }

    /** The text alone is the task. */
    Used tells(String text) {
        wipe();
        writes(text);
        if (task() < 0) {
            throw new IllegalStateException("no task: " + text);
        }
        return this;
    }

    /** Moves told as in a run: three figures are a mark made, l is learn, v is leave. */
    Used plays(String moves) {
        for (String move : moves.trim().split(" ")) {
            if (move.equals("l")) {
                learn();
            } else if (move.equals("v")) {
                leave();
            } else {
                make(move.charAt(0) - '0', move.charAt(1) - '0', move.charAt(2) - '0');
            }
        }
        return this;
    }

    /** The marks on the trail, each as it is told. */
    List<Integer> marks() {
        return row(0);
    }

    /** Of each mark on the trail what is asked: its level (1), its reason (2), its why (3). */
    List<Integer> row(int what) {
        List<Integer> row = new ArrayList<>();
        int size = about(2);
        for (int i = 0; i < size; i++) {
            row.add(mark(i, what));
        }
        return row;
    }

    /** The marks of a cut. */
    List<Integer> marksOfCut(int cut) {
        List<Integer> marks = new ArrayList<>();
        for (int k = 0; k <= 8; k++) {
            int mark = cut(cut, k);
            if (mark < 0) {
                break;
            }
            marks.add(mark);
        }
        return marks;
    }

    /** All cuts. */
    List<List<Integer>> cuts() {
        List<List<Integer>> cuts = new ArrayList<>();
        int count = about(5);
        for (int cut = 0; cut < count; cut++) {
            cuts.add(marksOfCut(cut));
        }
        return cuts;
    }

    int callsLeft() {
        return MOST_CALLS - calls.size();
    }

    String toldBack() {
        int from = Math.max(0, calls.size() - TOLD_BACK);
        return (from > 0 ? ".. " : "") + String.join(" ", calls.subList(from, calls.size()));
    }

    private void called(String name, Object... with) {
        last = this;
        List<String> arguments = new ArrayList<>();
        for (Object argument : with) {
            arguments.add(String.valueOf(argument));
        }
        calls.add(name + "(" + String.join(", ", arguments) + ")");
        if (calls.size() > MOST_CALLS) {
            throw new IllegalStateException("an object is used for at most 512 calls: " + toldBack());
        }
    }
}
