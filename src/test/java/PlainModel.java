import java.util.ArrayList;
import java.util.Arrays;
import java.util.Comparator;
import java.util.List;
import java.util.TreeSet;

/** The document's words taken one by one, with lists and exact fractions and no thought of speed. */
final class PlainModel {
    static final int NONE = -1, UNKNOWN = -2000000001, OUTSIDE = -2000000002, STATE = -2000000003, ROOM = -2000000004;

    private record Join(int a, int b, int together, Ratio apart) { }

    private static final class Slot {
        int groups;
        int[] groupOf;
    }

    private int columns = 2;
    private final List<int[]> rows = new ArrayList<>();
    private final Slot[] slots = new Slot[2];
    private List<Join> tree = null;
    private int[] medoids = new int[0];

    int columns(int n) {
        if (n < 1 || n > 4) return OUTSIDE;
        if (!rows.isEmpty()) return STATE;
        columns = n;
        return 1;
    }

    int row(int a, int b, int c, int d) {
        int[] row = Arrays.copyOf(new int[] {a, b, c, d}, columns);
        for (int x : row) if (x < -1000 || x > 1000) return OUTSIDE;
        if (rows.size() == 30) return ROOM;
        rows.add(row);
        forget();
        return rows.size() - 1;
    }

    int clear() {
        int n = rows.size();
        rows.clear();
        forget();
        return n;
    }

    private void forget() {
        slots[0] = null;
        slots[1] = null;
        tree = null;
        medoids = new int[0];
    }

    int count(int what) {
        return switch (what) {
            case 0 -> rows.size();
            case 1 -> columns;
            case 2, 3 -> slots[what - 2] == null ? NONE : slots[what - 2].groups;
            case 4 -> tree == null ? NONE : tree.size();
            default -> OUTSIDE;
        };
    }

    private boolean noRow(int i) {
        return i < 0 || i >= rows.size();
    }

    private static boolean not(int x, int from, int to) {
        return x < from || x > to;
    }

    private int d(int kind, int i, int j) {
        int answer = 0;
        for (int c = 0; c < columns; c++) {
            int gap = Math.abs(rows.get(i)[c] - rows.get(j)[c]);
            answer = kind == 0 ? answer + gap * gap : kind == 1 ? answer + gap : Math.max(answer, gap);
        }
        return answer;
    }

    int distance(int kind, int i, int j) {
        if (noRow(i) || noRow(j)) return UNKNOWN;
        if (not(kind, 0, 2)) return OUTSIDE;
        return d(kind, i, j);
    }

    int near(int kind, int i, int k) {
        if (noRow(i)) return UNKNOWN;
        if (not(kind, 0, 2)) return OUTSIDE;
        List<Integer> others = new ArrayList<>();
        for (int r = 0; r < rows.size(); r++) if (r != i) others.add(r);
        others.sort(Comparator.comparingInt((Integer r) -> d(kind, i, r)).thenComparingInt(r -> r));
        return k < 0 || k >= others.size() ? NONE : others.get(k);
    }

    private void put(int slot, int groups, int[] groupOf) {
        slots[slot] = new Slot();
        slots[slot].groups = groups;
        slots[slot].groupOf = groupOf;
    }

    private Ratio[] meanOf(List<Integer> members) {
        Ratio[] mean = new Ratio[columns];
        for (int c = 0; c < columns; c++) {
            long total = 0;
            for (int r : members) total += rows.get(r)[c];
            mean[c] = members.isEmpty() ? Ratio.ZERO : Ratio.of(total, members.size());
        }
        return mean;
    }

    private static List<Integer> members(int[] groupOf, int g) {
        List<Integer> members = new ArrayList<>();
        for (int r = 0; r < groupOf.length; r++) if (groupOf[r] == g) members.add(r);
        return members;
    }

    private Ratio squares(int r, Ratio[] mean) {
        Ratio total = Ratio.ZERO;
        for (int c = 0; c < columns; c++) total = total.plus(Ratio.of(rows.get(r)[c], 1).minus(mean[c]).squared());
        return total;
    }

    int means(int slot, int k) {
        if (not(slot, 0, 1) || not(k, 1, 6)) return OUTSIDE;
        if (rows.size() < k) return STATE;
        List<Integer> chosen = new ArrayList<>(List.of(0));
        while (chosen.size() < k) {
            int next = -1;
            int greatest = -1;
            for (int r = 0; r < rows.size(); r++) {
                if (chosen.contains(r)) continue;
                int row = r;
                int least = chosen.stream().mapToInt(c -> d(0, c, row)).min().getAsInt();
                if (least > greatest) {
                    greatest = least;
                    next = r;
                }
            }
            chosen.add(next);
        }
        List<Ratio[]> means = new ArrayList<>();
        for (int r : chosen) means.add(meanOf(List.of(r)));
        int[] last = null;
        int round = 0;
        while (true) {
            round++;
            int[] groupOf = roundOf(means, k);
            boolean stays = last != null && Arrays.equals(last, groupOf);
            last = groupOf;
            for (int g = 0; g < k; g++) means.set(g, meanOf(members(groupOf, g)));
            if (stays || round == 60) break;
        }
        put(slot, k, last);
        return round;
    }

    private int[] roundOf(List<Ratio[]> means, int k) {
        int[] groupOf = new int[rows.size()];
        for (int r = 0; r < rows.size(); r++) {
            for (int g = 1; g < k; g++) {
                if (squares(r, means.get(g)).compareTo(squares(r, means.get(groupOf[r]))) < 0) groupOf[r] = g;
            }
        }
        for (int g = 0; g < k; g++) {
            if (!members(groupOf, g).isEmpty()) continue;
            int farthest = -1;
            for (int r = 0; r < rows.size(); r++) {
                if (members(groupOf, groupOf[r]).size() < 2) continue;
                if (farthest < 0 || squares(r, means.get(groupOf[r])).compareTo(squares(farthest, means.get(groupOf[farthest]))) > 0) {
                    farthest = r;
                }
            }
            groupOf[farthest] = g;
        }
        return groupOf;
    }

    int medoids(int slot, int kind, int k) {
        if (not(slot, 0, 1) || not(kind, 0, 2) || not(k, 1, 3)) return OUTSIDE;
        int n = rows.size();
        if (n < k) return STATE;
        List<int[]> choices = new ArrayList<>();
        for (int a = 0; a < n; a++) {
            if (k == 1) choices.add(new int[] {a});
            for (int b = a + 1; b < n; b++) {
                if (k == 2) choices.add(new int[] {a, b});
                for (int c = b + 1; k == 3 && c < n; c++) choices.add(new int[] {a, b, c});
            }
        }
        int best = Integer.MAX_VALUE;
        int[] bestGroups = null;
        for (int[] choice : choices) {
            int[] groupOf = new int[n];
            int total = 0;
            for (int r = 0; r < n; r++) {
                for (int i = 1; i < k; i++) if (d(kind, r, choice[i]) < d(kind, r, choice[groupOf[r]])) groupOf[r] = i;
                total += d(kind, r, choice[groupOf[r]]);
            }
            if (total < best) {
                best = total;
                bestGroups = groupOf;
                medoids = choice;
            }
        }
        put(slot, k, bestGroups);
        return best;
    }

    int medoid(int i) {
        return i < 0 || i >= medoids.length ? NONE : medoids[i];
    }

    int density(int slot, int kind, int e, int m) {
        if (not(slot, 0, 1) || not(kind, 0, 2) || not(e, 0, 20000000) || not(m, 1, 30)) return OUTSIDE;
        int n = rows.size();
        if (n == 0) return STATE;
        boolean[] core = new boolean[n];
        for (int r = 0; r < n; r++) {
            int within = 0;
            for (int s = 0; s < n; s++) if (d(kind, r, s) <= e) within++;
            core[r] = within >= m;
        }
        // each core is named after the least core that it hangs together with, till no name changes
        int[] name = new int[n];
        for (int r = 0; r < n; r++) name[r] = r;
        for (boolean changed = true; changed;) {
            changed = false;
            for (int r = 0; r < n; r++) {
                for (int s = 0; s < n; s++) {
                    if (core[r] && core[s] && d(kind, r, s) <= e && name[s] < name[r]) {
                        name[r] = name[s];
                        changed = true;
                    }
                }
            }
        }
        TreeSet<Integer> names = new TreeSet<>();
        for (int r = 0; r < n; r++) if (core[r]) names.add(name[r]);
        int[] groupOf = new int[n];
        for (int r = 0; r < n; r++) {
            groupOf[r] = core[r] ? names.headSet(name[r]).size() : NONE;
            for (int s = 0; !core[r] && s < n; s++) {
                if (!core[s] || d(kind, r, s) > e) continue;
                int g = names.headSet(name[s]).size();
                if (groupOf[r] == NONE || g < groupOf[r]) groupOf[r] = g;
            }
        }
        put(slot, names.size(), groupOf);
        return names.size();
    }

    private Ratio apart(int way, int kind, List<Integer> p, List<Integer> q) {
        if (way == 3) {
            Ratio total = Ratio.ZERO;
            Ratio[] a = meanOf(p);
            Ratio[] b = meanOf(q);
            for (int c = 0; c < columns; c++) total = total.plus(a[c].minus(b[c]).squared());
            return total.times(Ratio.of((long) p.size() * q.size(), p.size() + q.size()));
        }
        long least = Long.MAX_VALUE;
        long greatest = 0;
        long total = 0;
        for (int r : p) {
            for (int s : q) {
                least = Math.min(least, d(kind, r, s));
                greatest = Math.max(greatest, d(kind, r, s));
                total += d(kind, r, s);
            }
        }
        return way == 0 ? Ratio.of(least, 1) : way == 1 ? Ratio.of(greatest, 1) : Ratio.of(total, (long) p.size() * q.size());
    }

    int tree(int way, int kind) {
        if (not(way, 0, 3) || not(kind, 0, 2)) return OUTSIDE;
        if (rows.isEmpty()) return STATE;
        List<List<Integer>> clusters = new ArrayList<>();
        for (int r = 0; r < rows.size(); r++) clusters.add(new ArrayList<>(List.of(r)));
        tree = new ArrayList<>();
        while (clusters.size() > 1) {
            int x = -1;
            int y = -1;
            Ratio least = null;
            for (int i = 0; i < clusters.size(); i++) {
                for (int j = i + 1; j < clusters.size(); j++) {
                    Ratio gap = apart(way, kind, clusters.get(i), clusters.get(j));
                    if (least == null || gap.compareTo(least) < 0) {
                        least = gap;
                        x = i;
                        y = j;
                    }
                }
            }
            // the first of each list is its least row, and the lists stay in the order of these
            int a = clusters.get(x).get(0);
            int b = clusters.get(y).get(0);
            clusters.get(x).addAll(clusters.remove(y));
            tree.add(new Join(a, b, clusters.get(x).size(), least));
        }
        return tree.size();
    }

    long join(int i, int what) {
        if (not(what, 0, 4)) return OUTSIDE;
        if (tree == null) return STATE;
        if (not(i, 0, tree.size() - 1)) return NONE;
        Join join = tree.get(i);
        return switch (what) {
            case 0 -> join.a;
            case 1 -> join.b;
            case 2 -> join.together;
            default -> join.apart.side(what - 3);
        };
    }

    int cut(int slot, int g) {
        if (not(slot, 0, 1) || not(g, 1, 30)) return OUTSIDE;
        if (tree == null || rows.size() < g) return STATE;
        List<TreeSet<Integer>> clusters = new ArrayList<>();
        for (int r = 0; r < rows.size(); r++) clusters.add(new TreeSet<>(List.of(r)));
        for (int i = 0; clusters.size() > g; i++) {
            Join join = tree.get(i);
            TreeSet<Integer> b = clusters.stream().filter(s -> s.first() == join.b).findFirst().get();
            clusters.remove(b);
            clusters.stream().filter(s -> s.first() == join.a).findFirst().get().addAll(b);
        }
        clusters.sort(Comparator.comparing(TreeSet::first));
        int[] groupOf = new int[rows.size()];
        for (int n = 0; n < g; n++) for (int r : clusters.get(n)) groupOf[r] = n;
        put(slot, g, groupOf);
        return 1;
    }

    int of(int slot, int i) {
        if (noRow(i)) return UNKNOWN;
        if (not(slot, 0, 1)) return OUTSIDE;
        if (slots[slot] == null) return STATE;
        return slots[slot].groupOf[i];
    }

    int size(int slot, int g) {
        if (not(slot, 0, 1)) return OUTSIDE;
        if (slots[slot] == null) return STATE;
        if (not(g, 0, slots[slot].groups - 1)) return UNKNOWN;
        return members(slots[slot].groupOf, g).size();
    }

    int mean(int slot, int g, int column, int side) {
        int size = size(slot, g);
        if (size < 0) return size;
        if (not(column, 0, columns - 1) || not(side, 0, 1)) return OUTSIDE;
        return (int) meanOf(members(slots[slot].groupOf, g))[column].side(side);
    }

    long sum(int slot, int side) {
        if (not(slot, 0, 1) || not(side, 0, 1)) return OUTSIDE;
        if (slots[slot] == null) return STATE;
        Ratio total = Ratio.ZERO;
        for (int g = 0; g < slots[slot].groups; g++) {
            List<Integer> members = members(slots[slot].groupOf, g);
            for (int r : members) total = total.plus(squares(r, meanOf(members)));
        }
        return total.side(side);
    }

    long well(int slot, int kind, int i, int side) {
        if (noRow(i)) return UNKNOWN;
        if (not(slot, 0, 1) || not(kind, 0, 2) || not(side, 0, 1)) return OUTSIDE;
        if (slots[slot] == null || slots[slot].groupOf[i] == NONE) return STATE;
        return wellOf(slots[slot], kind, i).side(side);
    }

    private Ratio wellOf(Slot slot, int kind, int i) {
        Ratio x = null;
        Ratio y = null;
        for (int g = 0; g < slot.groups; g++) {
            List<Integer> others = members(slot.groupOf, g);
            others.remove(Integer.valueOf(i));
            if (others.isEmpty()) continue;
            long total = 0;
            for (int r : others) total += d(kind, i, r);
            Ratio mean = Ratio.of(total, others.size());
            if (g == slot.groupOf[i]) x = mean;
            else if (y == null || mean.compareTo(y) < 0) y = mean;
        }
        if (x == null || y == null) return Ratio.ZERO;
        Ratio greater = x.compareTo(y) > 0 ? x : y;
        return greater.equals(Ratio.ZERO) ? Ratio.ZERO : y.minus(x).over(greater);
    }

    int agree(int what) {
        if (not(what, 0, 3)) return OUTSIDE;
        if (slots[0] == null || slots[1] == null) return STATE;
        int[] counts = new int[4];
        int[] p = slots[0].groupOf;
        int[] q = slots[1].groupOf;
        for (int i = 0; i < rows.size(); i++) {
            for (int j = 0; j < i; j++) {
                if (p[i] == NONE || p[j] == NONE || q[i] == NONE || q[j] == NONE) continue;
                counts[(p[i] == p[j] ? 0 : 2) + (q[i] == q[j] ? 0 : 1)]++;
            }
        }
        return counts[what];
    }
}
