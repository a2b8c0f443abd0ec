import java.util.ArrayList;
import java.util.List;
import java.util.TreeMap;
import java.util.TreeSet;

/** The document's words done in the slowest and plainest way, to compare the class with. */
final class Model {
    private final int life;
    private final List<TreeSet<Integer>> cases = new ArrayList<>();
    private final List<TreeSet<Integer>> touchDays = new ArrayList<>();
    private final List<TreeMap<Integer, Boolean>> results = new ArrayList<>();
    private final List<int[]> acts = new ArrayList<>();
    private final List<TreeSet<Integer>> shown = new ArrayList<>();
    private final int[][] ways = new int[10][10];
    private List<Integer> lastPlan = new ArrayList<>();
    private int lastSeconds = 0;

    private List<Integer> best;
    private int bestSum;

    Model(int life) {
        this.life = life < 1 ? 1 : life > 5000 ? 5000 : life;
    }

    private static void legal(boolean yes) {
        if (!yes) {
            throw new IllegalArgumentException();
        }
    }

    private static boolean in(int n, int least, int most) {
        return n >= least && n <= most;
    }

    private boolean isCase(int n) {
        return in(n, 0, cases.size() - 1);
    }

    private boolean isAct(int n) {
        return in(n, 0, acts.size() - 1);
    }

    private static boolean isDay(int n) {
        return in(n, 0, 100000);
    }

    int fault(int point, int other) {
        legal(in(point, 0, 29) && in(other, -1, 29) && point != other);
        TreeSet<Integer> points = new TreeSet<>();
        points.add(point);
        if (other != -1) {
            points.add(other);
        }
        if (cases.contains(points)) {
            return cases.indexOf(points);
        }
        if (cases.size() == 24) {
            throw new IllegalStateException();
        }
        cases.add(points);
        touchDays.add(new TreeSet<>());
        results.add(new TreeMap<>());
        return cases.size() - 1;
    }

    int act(int place, int seconds) {
        legal(in(place, 0, 9) && in(seconds, 1, 10000));
        if (acts.size() == 8) {
            throw new IllegalStateException();
        }
        acts.add(new int[] {place, seconds});
        shown.add(new TreeSet<>());
        return acts.size() - 1;
    }

    int shows(int act, int fault, boolean on) {
        legal(isAct(act) && isCase(fault));
        boolean did = shown.get(act).contains(fault);
        if (on) {
            shown.get(act).add(fault);
        } else {
            shown.get(act).remove(fault);
        }
        return did ? 1 : 0;
    }

    int way(int place, int other, int seconds) {
        legal(in(place, 0, 9) && in(other, 0, 9) && in(seconds, 0, 10000) && place != other);
        int was = ways[place][other];
        ways[place][other] = seconds;
        ways[other][place] = seconds;
        return was;
    }

    int change(int point, int day) {
        legal(in(point, 0, 29) && isDay(day));
        int count = 0;
        for (int i = 0; i < cases.size(); i++) {
            if (cases.get(i).contains(point)) {
                touchDays.get(i).add(day);
                count++;
            }
        }
        return count;
    }

    int result(int fault, int person, int day, boolean good) {
        legal(isCase(fault) && in(person, 0, 9) && isDay(day));
        TreeMap<Integer, Boolean> told = results.get(fault);
        int key = day * 10 + person;
        if (!told.containsKey(key) && told.size() == 32) {
            throw new IllegalStateException();
        }
        told.put(key, good);
        return told.size();
    }

    int plan(int day) {
        legal(isDay(day));
        TreeSet<Integer> need = new TreeSet<>();
        for (int i = 0; i < cases.size(); i++) {
            if (stateAt(i, day) != 3 && isShown(i)) {
                need.add(i);
            }
        }
        tryAll(need, -1);
        lastPlan = best;
        lastSeconds = bestSum;
        return best.size();
    }

    int planned(int k) {
        legal(in(k, 0, lastPlan.size() - 1));
        return lastPlan.get(k);
    }

    int seconds() {
        return lastSeconds;
    }

    int from(int act) {
        legal(isAct(act));
        if (shown.get(act).isEmpty()) {
            return -1;
        }
        TreeSet<Integer> need = new TreeSet<>();
        for (int i = 0; i < cases.size(); i++) {
            if (isShown(i)) {
                need.add(i);
            }
        }
        tryAll(need, act);
        return bestSum;
    }

    int state(int fault, int day) {
        legal(isCase(fault) && isDay(day));
        return stateAt(fault, day);
    }

    int word(int fault, int person, int day) {
        legal(isCase(fault) && in(person, 0, 9) && isDay(day));
        return wordAt(fault, person, day);
    }

    int listed(int state, int day, int k) {
        legal(in(state, 0, 3) && isDay(day) && k >= 0);
        List<Integer> list = new ArrayList<>();
        for (int i = 0; i < cases.size(); i++) {
            if (stateAt(i, day) == state) {
                list.add(i);
            }
        }
        return k < list.size() ? list.get(k) : -1;
    }

    int hidden(int k) {
        legal(k >= 0);
        List<Integer> list = new ArrayList<>();
        for (int i = 0; i < cases.size(); i++) {
            if (!isShown(i)) {
                list.add(i);
            }
        }
        return k < list.size() ? list.get(k) : -1;
    }

    int proves(int fault, int day) {
        legal(isCase(fault) && isDay(day));
        int at = day;
        while (stateAt(fault, at) == 3) {
            at++;
        }
        return at;
    }

    int touched(int fault, int day) {
        legal(isCase(fault) && isDay(day));
        Integer found = touchDays.get(fault).floor(day);
        return found == null ? -1 : found;
    }

    private boolean isShown(int fault) {
        return shown.stream().anyMatch(set -> set.contains(fault));
    }

    private int wordAt(int fault, int person, int day) {
        Integer touch = touchDays.get(fault).floor(day);
        int said = -1;
        for (var told : results.get(fault).entrySet()) {
            int on = told.getKey() / 10;
            boolean counts = on <= day && on >= day - life && (touch == null || on > touch);
            if (counts && told.getKey() % 10 == person) {
                said = told.getValue() ? 1 : 0;
            }
        }
        return said;
    }

    private int stateAt(int fault, int day) {
        int[] words = new int[2];
        for (int person = 0; person < 10; person++) {
            int said = wordAt(fault, person, day);
            if (said >= 0) {
                words[said]++;
            }
        }
        if (words[0] == 0 && words[1] >= 2) {
            return 3;
        }
        if (words[0] > 0 && words[1] > 0) {
            return 2;
        }
        return words[0] > 0 ? 1 : 0;
    }

    /** Looks at every order of every set of acts (of those that begin with an act, if one is given). */
    private void tryAll(TreeSet<Integer> need, int first) {
        best = null;
        bestSum = 0;
        tryOrders(need, first, new ArrayList<>(), 0);
    }

    private void tryOrders(TreeSet<Integer> need, int first, List<Integer> order, int sum) {
        if (shownBy(order).containsAll(need) && (first == -1 || !order.isEmpty()) && isBetter(order, sum)) {
            best = new ArrayList<>(order);
            bestSum = sum;
        }
        for (int next = 0; next < acts.size(); next++) {
            if (order.contains(next) || order.isEmpty() && first != -1 && next != first) {
                continue;
            }
            int longer = sum + acts.get(next)[1];
            if (!order.isEmpty()) {
                longer += ways[acts.get(order.get(order.size() - 1))[0]][acts.get(next)[0]];
            }
            order.add(next);
            tryOrders(need, first, order, longer);
            order.remove(order.size() - 1);
        }
    }

    private TreeSet<Integer> shownBy(List<Integer> order) {
        TreeSet<Integer> all = new TreeSet<>();
        for (int act : order) {
            all.addAll(shown.get(act));
        }
        return all;
    }

    private boolean isBetter(List<Integer> order, int sum) {
        if (best == null || sum != bestSum) {
            return best == null || sum < bestSum;
        }
        if (order.size() != best.size()) {
            return order.size() < best.size();
        }
        for (int i = 0; i < order.size(); i++) {
            if (!order.get(i).equals(best.get(i))) {
                return order.get(i) < best.get(i);
            }
        }
        return false;
    }
}
