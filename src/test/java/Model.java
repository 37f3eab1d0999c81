import java.util.ArrayList;
import java.util.LinkedHashMap;
import java.util.LinkedHashSet;
import java.util.List;
import java.util.TreeSet;

/**
 * The document told a second time, with the Java library and no thought of speed,
 * so that ModelTest can compare the class with it.
 */
final class Model {
    private final int rows;
    private final int capacity;
    private int window;
    private final int[][] counters;
    private final boolean[] bits = new boolean[128];
    private final int[][] place;
    private final int[][] door = new int[2][100];
    private final int[] rule = {1, 0, 200, 0, 0, 20};
    private final int[] size = new int[100];
    private final int[] since = new int[100];
    private final List<List<Integer>> parts = new ArrayList<>();
    private final List<Integer> trace = new ArrayList<>();
    private TreeSet<Integer> kept = new TreeSet<>();
    private int added, aged, accesses, hits, outs;
    private int direction = 1;
    private int periodHits, periodAccesses, hitsBefore;

    Model(int rows, int capacity, int window) {
        this.rows = rows < 1 ? 1 : rows > 4 ? 4 : rows;
        this.capacity = capacity < 4 ? 4 : capacity > 200 ? 200 : capacity;
        this.window = window < 1 ? 1 : window > this.capacity - 1 ? this.capacity - 1 : window;
        counters = new int[this.rows][64];
        place = new int[this.rows][100];
        for (int k = 0; k < 100; k++) {
            for (int r = 0; r < this.rows; r++) {
                place[r][k] = (k * (2 * r + 5) + 11 * r) % 64;
            }
            door[0][k] = k;
            door[1][k] = (5 * k + 64) % 128;
            size[k] = 1;
        }
        for (int p = 0; p < 3; p++) {
            parts.add(new ArrayList<>());
        }
    }

    private static boolean in(int v, int least, int most) {
        return v >= least && v <= most;
    }

    int place(int row, int key, int counter) {
        if (!in(row, 0, rows - 1) || !in(key, 0, 99) || !in(counter, 0, 63)) return -2;
        int was = place[row][key];
        place[row][key] = counter;
        if (was != counter) java.util.Arrays.fill(since, 0);
        return was;
    }

    int door(int which, int key, int bit) {
        if (!in(which, 0, 1) || !in(key, 0, 99) || !in(bit, 0, 127)) return -2;
        int was = door[which][key];
        door[which][key] = bit;
        if (was != bit) java.util.Arrays.fill(since, 0);
        return was;
    }

    int rule(int what, int v) {
        int[][] limits = {{0, 1}, {0, 1}, {10, 1000}, {0, 2}, {0, 20}, {5, 500}};
        if (!in(what, 0, 5) || !in(v, limits[what][0], limits[what][1])) return -2;
        int was = rule[what];
        rule[what] = v;
        if (what <= 1 && was != v) java.util.Arrays.fill(since, 0);
        if (what >= 4) {
            periodHits = 0;
            periodAccesses = 0;
            hitsBefore = 0;
        }
        return was;
    }

    int size(int key, int units) {
        if (!in(key, 0, 99) || !in(units, 1, 20)) return -2;
        if (where(key) >= 0) return -3;
        int was = size[key];
        size[key] = units;
        return was;
    }

    int access(int key) {
        if (!in(key, 0, 99)) return -2;
        accesses++;
        trace.add(key);
        if (trace.size() > 300) trace.remove(0);
        put(key);
        int was = where(key);
        if (was >= 0) {
            hits++;
            parts.get(was).remove((Integer) key);
            parts.get(was == 1 ? 2 : was).add(key);
            settle();
        } else if (size[key] <= capacity) {
            if (size[key] > window) {
                candidate(key);
            } else {
                parts.get(0).add(key);
                overflow();
            }
        }
        climb(was >= 0);
        if (was >= 0) return was + 2;
        return where(key) >= 0 ? 1 : 0;
    }

    private void settle() {
        while (units(2) > about(1)) parts.get(1).add(parts.get(2).remove(0));
    }

    private void overflow() {
        while (units(0) > window) candidate(parts.get(0).remove(0));
    }

    private int mainUnits() {
        return units(1) + units(2);
    }

    private int units(int part) {
        int sum = 0;
        for (int k : parts.get(part)) sum += size[k];
        return sum;
    }

    private List<Integer> victims() {
        List<Integer> all = new ArrayList<>(parts.get(1));
        all.addAll(parts.get(2));
        return all;
    }

    private void leave(int key) {
        for (List<Integer> part : parts) part.remove((Integer) key);
    }

    private void candidate(int key) {
        int main = capacity - window;
        if (size[key] > main) {
            outs++;
            return;
        }
        if (rule[3] == 1) {
            bySum(key, main);
            return;
        }
        for (int victim : victims()) {
            if (mainUnits() + size[key] <= main) break;
            if (rule[3] == 0 && estimate(key) <= estimate(victim)) {
                outs++;
                return;
            }
            leave(victim);
            outs++;
        }
        parts.get(1).add(key);
    }

    private void bySum(int key, int main) {
        if (mainUnits() + size[key] <= main) {
            parts.get(1).add(key);
            return;
        }
        List<Integer> few = new ArrayList<>();
        int freed = 0;
        int sum = 0;
        for (int victim : victims()) {
            if (mainUnits() - freed + size[key] <= main) break;
            few.add(victim);
            freed += size[victim];
            sum += estimate(victim);
        }
        if (estimate(key) > sum) {
            for (int victim : few) leave(victim);
            outs += few.size();
            parts.get(1).add(key);
            return;
        }
        outs++;
        for (int victim : few) {
            int part = where(victim);
            leave(victim);
            parts.get(part).add(victim);
        }
    }

    private void climb(boolean hit) {
        if (rule[4] == 0) return;
        periodAccesses++;
        periodHits += hit ? 1 : 0;
        if (periodAccesses < rule[5]) return;
        if (periodHits < hitsBefore) direction = -direction;
        hitsBefore = periodHits;
        periodHits = 0;
        periodAccesses = 0;
        window += direction * rule[4];
        if (window < 1) window = 1;
        if (window > capacity - 1) window = capacity - 1;
        settle();
        while (mainUnits() > capacity - window) {
            int victim = victims().get(0);
            leave(victim);
            parts.get(0).add(victim);
        }
        overflow();
    }

    int run(int key, int step, int n) {
        if (!in(key, 0, 99) || !in(step, 0, 99) || !in(n, 1, 100)) return -2;
        int found = 0;
        for (int i = 0; i < n; i++) found += access((key + i * step) % 100) >= 2 ? 1 : 0;
        return found;
    }

    private void put(int key) {
        added++;
        since[key]++;
        boolean both = bits[door[0][key]] && bits[door[1][key]];
        if (rule[0] == 1 && !both) {
            bits[door[0][key]] = true;
            bits[door[1][key]] = true;
        } else {
            int least = 99;
            for (int r = 0; r < rows; r++) least = Math.min(least, counters[r][place[r][key]]);
            for (int r = 0; r < rows; r++) {
                int c = counters[r][place[r][key]];
                if (c < 15 && (rule[1] == 0 || c == least)) counters[r][place[r][key]] = c + 1;
            }
        }
        if (added >= rule[2]) {
            for (int[] row : counters) for (int i = 0; i < 64; i++) row[i] = row[i] >> 1;
            java.util.Arrays.fill(bits, false);
            java.util.Arrays.fill(since, 0);
            added = rule[2] / 2;
            aged++;
        }
    }

    int add(int key) {
        if (!in(key, 0, 99)) return -2;
        put(key);
        return estimate(key);
    }

    int estimate(int key) {
        if (!in(key, 0, 99)) return -2;
        int least = 99;
        for (int r = 0; r < rows; r++) least = Math.min(least, counters[r][place[r][key]]);
        return least + (rule[0] == 1 && bits[door[0][key]] && bits[door[1][key]] ? 1 : 0);
    }

    int counter(int row, int i) {
        return in(row, 0, rows - 1) && in(i, 0, 63) ? counters[row][i] : -2;
    }

    int bit(int i) {
        return !in(i, 0, 127) ? -2 : bits[i] ? 1 : 0;
    }

    int remove(int key) {
        if (!in(key, 0, 99)) return -2;
        int was = where(key);
        leave(key);
        return was;
    }

    int where(int key) {
        if (!in(key, 0, 99)) return -2;
        for (int p = 0; p < 3; p++) if (parts.get(p).contains(key)) return p;
        return -1;
    }

    int key(int part, int i) {
        if (!in(part, 0, 2)) return -2;
        return in(i, 0, parts.get(part).size() - 1) ? parts.get(part).get(i) : -1;
    }

    int about(int what) {
        if (!in(what, 0, 15)) return -2;
        int there = parts.get(0).size() + parts.get(1).size() + parts.get(2).size();
        int[] all = {
            window, (capacity - window) * 4 / 5, units(0), units(1), units(2), there, added, aged,
            accesses, hits, outs, direction, periodHits, periodAccesses, hitsBefore, trace.size()};
        return all[what];
    }

    int trace(int i) {
        return in(i, 0, trace.size() - 1) ? trace.get(i) : -1;
    }

    int replay(int policy, int n, int from, int to) {
        if (!in(policy, 0, 5) || !in(n, 1, 30) || from < 0 || from > to || to > trace.size()) return -2;
        List<Integer> asked = trace.subList(from, to);
        kept = new TreeSet<>();
        switch (policy) {
            case 0: return inOrder(asked, n, true);
            case 1: return inOrder(asked, n, false);
            case 2: return inRing(asked, n);
            case 3: return byUses(asked, n);
            case 4: return byFuture(asked, n);
            default: return byGoal(asked, n);
        }
    }

    private int inOrder(List<Integer> asked, int n, boolean byUse) {
        List<Integer> there = new ArrayList<>();
        int found = 0;
        for (Integer k : asked) {
            if (there.contains(k)) {
                found++;
                if (byUse) {
                    there.remove(k);
                    there.add(k);
                }
            } else {
                if (there.size() == n) there.remove(0);
                there.add(k);
            }
        }
        kept.addAll(there);
        return found;
    }

    private int inRing(List<Integer> asked, int n) {
        List<Integer> seats = new ArrayList<>();
        TreeSet<Integer> marked = new TreeSet<>();
        int hand = 0;
        int found = 0;
        for (Integer k : asked) {
            if (seats.contains(k)) {
                found++;
                marked.add(k);
            } else if (seats.size() < n) {
                seats.add(k);
            } else {
                while (marked.remove(seats.get(hand))) hand = (hand + 1) % n;
                seats.set(hand, k);
                hand = (hand + 1) % n;
            }
        }
        kept.addAll(seats);
        return found;
    }

    private int byUses(List<Integer> asked, int n) {
        // The map's order is by the latest use, so the first of the fewest is the right one.
        LinkedHashMap<Integer, Integer> uses = new LinkedHashMap<>();
        int found = 0;
        for (Integer k : asked) {
            Integer had = uses.remove(k);
            if (had != null) {
                found++;
            } else if (uses.size() == n) {
                Integer goes = null;
                for (Integer other : uses.keySet()) {
                    if (goes == null || uses.get(other) < uses.get(goes)) goes = other;
                }
                uses.remove(goes);
            }
            uses.put(k, had == null ? 1 : had + 1);
        }
        kept.addAll(uses.keySet());
        return found;
    }

    private int byFuture(List<Integer> asked, int n) {
        TreeSet<Integer> there = new TreeSet<>();
        int found = 0;
        for (int i = 0; i < asked.size(); i++) {
            if (there.contains(asked.get(i))) {
                found++;
                continue;
            }
            if (there.size() == n) {
                List<Integer> rest = asked.subList(i + 1, asked.size());
                Integer goes = null;
                int goesAt = -1;
                for (Integer k : there) {
                    int at = rest.contains(k) ? rest.indexOf(k) : 1000;
                    if (at > goesAt) {
                        goes = k;
                        goesAt = at;
                    }
                }
                there.remove(goes);
            }
            there.add(asked.get(i));
        }
        kept.addAll(there);
        return found;
    }

    private static int takeFirst(LinkedHashSet<Integer> row) {
        int first = row.iterator().next();
        row.remove(first);
        return first;
    }

    private int byGoal(List<Integer> asked, int n) {
        List<LinkedHashSet<Integer>> r = new ArrayList<>();
        for (int i = 0; i < 4; i++) r.add(new LinkedHashSet<>());
        LinkedHashSet<Integer> t = r.get(0), u = r.get(1), v = r.get(2), x = r.get(3);
        int g = 0;
        int found = 0;
        for (Integer k : asked) {
            if (t.contains(k) || u.contains(k)) {
                found++;
                t.remove(k);
                u.remove(k);
                u.add(k);
            } else if (v.contains(k)) {
                g = Math.min(n, g + Math.max(1, x.size() / v.size()));
                makeRoom(r, g, false);
                v.remove(k);
                u.add(k);
            } else if (x.contains(k)) {
                g = Math.max(0, g - Math.max(1, v.size() / x.size()));
                makeRoom(r, g, true);
                x.remove(k);
                u.add(k);
            } else {
                int all = t.size() + u.size() + v.size() + x.size();
                if (t.size() + v.size() == n) {
                    if (t.size() < n) {
                        takeFirst(v);
                        makeRoom(r, g, false);
                    } else {
                        takeFirst(t);
                    }
                } else if (all >= n) {
                    if (all == 2 * n) takeFirst(x);
                    makeRoom(r, g, false);
                }
                t.add(k);
            }
            if (t.size() + u.size() > n) throw new IllegalStateException("too many keys");
        }
        kept.addAll(t);
        kept.addAll(u);
        return found;
    }

    private static void makeRoom(List<LinkedHashSet<Integer>> r, int g, boolean wasInX) {
        LinkedHashSet<Integer> t = r.get(0), u = r.get(1), v = r.get(2), x = r.get(3);
        if (!t.isEmpty() && (t.size() > g || t.size() == g && wasInX)) {
            v.add(takeFirst(t));
        } else if (!u.isEmpty()) {
            x.add(takeFirst(u));
        } else {
            v.add(takeFirst(t));
        }
    }

    int kept(int i) {
        return in(i, 0, kept.size() - 1) ? new ArrayList<>(kept).get(i) : -1;
    }

    void takeKeptOf(Model other) {
        kept = other.kept;
    }

    int sound() {
        for (int k = 0; k < 100; k++) if (estimate(k) < Math.min(15, since[k])) return 0;
        return units(0) <= window && mainUnits() <= capacity - window && units(2) <= about(1) ? 1 : 0;
    }
}
