import java.util.ArrayList;
import java.util.List;

/** A task read from its text, and what comes of its rules alone, found in the plainest way. */
final class ByHand {
    private final int numbers;
    private final int[] tops;
    private final List<int[]> weights = new ArrayList<>();
    private final List<Integer> bounds = new ArrayList<>();

    ByHand(String text) {
        numbers = text.charAt(1) - '0';
        tops = new int[numbers];
        for (int x = 0; x < numbers; x++) {
            tops[x] = text.charAt(2 + x) - '0';
        }
        for (int at = 2 + numbers; at < text.length(); at += numbers + 4) {
            int[] row = new int[numbers];
            for (int x = 0; x < numbers; x++) {
                row[x] = "cba0123".indexOf(text.charAt(at + 1 + x)) - 3;
            }
            weights.add(row);
            bounds.add(Integer.parseInt(text.substring(at + numbers + 1, at + numbers + 4)));
        }
    }

    int rules() {
        return weights.size();
    }

    /** The ways, when the rules told as bits are lost. */
    int ways(int lost) {
        return ways(lost, new int[numbers], 0);
    }

    private int ways(int lost, int[] values, int x) {
        if (x == numbers) {
            return keepsAll(lost, values) ? 1 : 0;
        }
        int count = 0;
        for (int value = 0; value <= tops[x]; value++) {
            values[x] = value;
            count += ways(lost, values, x + 1);
        }
        return count;
    }

    private boolean keepsAll(int lost, int[] values) {
        for (int rule = 0; rule < rules(); rule++) {
            int sum = 0;
            for (int x = 0; x < numbers; x++) {
                sum += weights.get(rule)[x] * values[x];
            }
            if ((lost >> rule & 1) == 0 && sum > bounds.get(rule)) {
                return false;
            }
        }
        return true;
    }

    /** By how many fewer ways there are when the rule has come, added up over all orders. */
    long fewerInAllOrders(int rule) {
        int[] ways = new int[1 << rules()];
        for (int lost = 0; lost < ways.length; lost++) {
            ways[lost] = ways(lost);
        }
        return fewer(ways, rule, ways.length - 1);
    }

    // Of those still lost one comes next: behind the rule the others come in any order.
    private long fewer(int[] ways, int rule, int lost) {
        long sum = 0;
        for (int next = 0; next < rules(); next++) {
            int left = lost & ~(1 << next);
            if (left != lost && next == rule) {
                sum += (ways[lost] - ways[left]) * orders(Integer.bitCount(left));
            } else if (left != lost) {
                sum += fewer(ways, rule, left);
            }
        }
        return sum;
    }

    static long orders(int count) {
        return count < 2 ? 1 : count * orders(count - 1);
    }

    /** How likely v ways or more are, times 10 as often as there are rules. */
    long likely(int v, int tenths) {
        long sum = 0;
        for (int lost = 0; lost < 1 << rules(); lost++) {
            if (ways(lost) >= v) {
                long by = 1;
                for (int rule = 0; rule < rules(); rule++) {
                    by *= (lost >> rule & 1) == 1 ? tenths : 10 - tenths;
                }
                sum += by;
            }
        }
        return sum;
    }

    /** The marks that the rules draw in when the task is told, till nothing is told or one breaks. */
    List<Integer> drawnIn() {
        List<Integer> trail = new ArrayList<>();
        while (true) {
            int told = breaks(trail) ? -1 : toldNext(trail);
            if (told < 0) {
                return trail;
            }
            trail.add(told);
        }
    }

    private int low(List<Integer> trail, int x) {
        return trail.stream().filter(mark -> mark / 10 == 10 * x).mapToInt(mark -> mark % 10).max().orElse(0);
    }

    private int high(List<Integer> trail, int x) {
        return trail.stream().filter(mark -> mark / 10 == 10 * x + 1).mapToInt(mark -> mark % 10).min().orElse(tops[x]);
    }

    private int least(List<Integer> trail, int rule) {
        int sum = 0;
        for (int x = 0; x < numbers; x++) {
            int w = weights.get(rule)[x];
            sum += w * (w > 0 ? low(trail, x) : high(trail, x));
        }
        return sum;
    }

    private boolean breaks(List<Integer> trail) {
        for (int rule = 0; rule < rules(); rule++) {
            if (least(trail, rule) > bounds.get(rule)) {
                return true;
            }
        }
        return false;
    }

    private int toldNext(List<Integer> trail) {
        for (int rule = 0; rule < rules(); rule++) {
            int room = bounds.get(rule) - least(trail, rule);
            for (int x = 0; x < numbers; x++) {
                int w = weights.get(rule)[x];
                if (w > 0 && low(trail, x) + room / w < high(trail, x)) {
                    return 100 * x + 10 + low(trail, x) + room / w;
                }
                if (w < 0 && high(trail, x) - room / -w > low(trail, x)) {
                    return 100 * x + high(trail, x) - room / -w;
                }
            }
        }
        return -1;
    }
}
