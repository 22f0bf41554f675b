/**
 * Rows of whole numbers, near and far, and groupings of them. All answers are exact: fractions are
 * compared by multiplying crosswise, which stays far below the bounds of a long for 30 rows.
 */
public final class NearGroups {
    public static final int NONE = -1, UNKNOWN = -2000000001, OUTSIDE = -2000000002, STATE = -2000000003, ROOM = -2000000004;

    private static final int MOST_ROWS = 30;
    private static final int MOST_COLUMNS = 4;
    private static final int FIRST_COLUMNS = 2;
    private static final int MOST_NUMBER = 1000;
    private static final int KINDS = 3;
    private static final int SQUARES = 0;
    private static final int SLOTS = 2;
    private static final int SIDES = 2;
    private static final int MOST_MEANS = 6;
    private static final int MOST_ROUNDS = 60;
    private static final int MOST_BEST = 3;
    private static final int MOST_REACH = 20000000;
    private static final int WAYS = 4;
    // above every distance, and every sum of thirty of them
    private static final int BEYOND_ALL = 2000000000;
    private static final int BY_LEAST = 0;
    private static final int BY_GREATEST = 1;
    private static final int BY_MEAN = 2;
    private static final int BY_GROWTH = 3;

    private final Table table;
    private final Grouping[] slots;
    private final MeanRounds meanRounds;
    private final BestRows bestRows;
    private final DenseRows denseRows;
    private final Joins joins;
    private final Fraction told;

    public NearGroups() {
        table = new Table();
        slots = new Grouping[SLOTS];
        for (int slot = 0; slot < SLOTS; slot++) {
            slots[slot] = new Grouping();
        }
        meanRounds = new MeanRounds();
        bestRows = new BestRows();
        denseRows = new DenseRows();
        joins = new Joins();
        told = new Fraction();
    }

    public int columns(int n) {
        if (n < 1 || n > MOST_COLUMNS) {
            return OUTSIDE;
        }
        if (table.rows > 0) {
            return STATE;
        }
        table.width = n;
        return 1;
    }

    public int row(int a, int b, int c, int d) {
        if (!table.takes(0, a) || !table.takes(1, b) || !table.takes(2, c) || !table.takes(3, d)) {
            return OUTSIDE;
        }
        if (table.rows >= MOST_ROWS) {
            return ROOM;
        }
        forgetGroupings();
        return table.append(a, b, c, d);
    }

    public int clear() {
        int gone = table.rows;
        table.rows = 0;
        forgetGroupings();
        return gone;
    }

    public int count(int what) {
        switch (what) {
            case 0:
                return table.rows;
            case 1:
                return table.width;
            case 2:
                return slots[0].groups;
            case 3:
                return slots[1].groups;
            case 4:
                return joins.made;
            default:
                return OUTSIDE;
        }
    }

    public int distance(int kind, int i, int j) {
        if (!isRow(i) || !isRow(j)) {
            return UNKNOWN;
        }
        if (!isKind(kind)) {
            return OUTSIDE;
        }
        return table.apart(kind, i, j);
    }

    public int near(int kind, int i, int k) {
        if (!isRow(i)) {
            return UNKNOWN;
        }
        if (!isKind(kind)) {
            return OUTSIDE;
        }
        for (int other = 0; other < table.rows; other++) {
            if (other != i && table.nearerThan(kind, i, other) == k) {
                return other;
            }
        }
        return NONE;
    }

    public int means(int slot, int k) {
        if (!isSlot(slot) || k < 1 || k > MOST_MEANS) {
            return OUTSIDE;
        }
        if (table.rows < k) {
            return STATE;
        }
        int rounds = meanRounds.run(table, k);
        slots[slot].fill(meanRounds.labels, table.rows, k);
        return rounds;
    }

    public int medoids(int slot, int kind, int k) {
        if (!isSlot(slot) || !isKind(kind) || k < 1 || k > MOST_BEST) {
            return OUTSIDE;
        }
        if (table.rows < k) {
            return STATE;
        }
        int least = bestRows.search(table, kind, k);
        slots[slot].fill(bestRows.labels, table.rows, k);
        return least;
    }

    public int medoid(int i) {
        if (i < 0 || i >= bestRows.wanted) {
            return NONE;
        }
        return bestRows.best[i];
    }

    public int density(int slot, int kind, int e, int m) {
        if (!isSlot(slot) || !isKind(kind) || e < 0 || e > MOST_REACH || m < 1 || m > MOST_ROWS) {
            return OUTSIDE;
        }
        if (table.rows == 0) {
            return STATE;
        }
        int groups = denseRows.spread(table, kind, e, m);
        slots[slot].fill(denseRows.labels, table.rows, groups);
        return groups;
    }

    public int tree(int way, int kind) {
        if (way < 0 || way >= WAYS || !isKind(kind)) {
            return OUTSIDE;
        }
        if (table.rows == 0) {
            return STATE;
        }
        return joins.build(table, way, kind);
    }

    public long join(int i, int what) {
        if (what < 0 || what > 4) {
            return OUTSIDE;
        }
        if (joins.made == NONE) {
            return STATE;
        }
        if (i < 0 || i >= joins.made) {
            return NONE;
        }
        switch (what) {
            case 0:
                return joins.firsts[i];
            case 1:
                return joins.seconds[i];
            case 2:
                return joins.together[i];
            case 3:
                return joins.aboves[i];
            default:
                return joins.belows[i];
        }
    }

    public int cut(int slot, int g) {
        if (!isSlot(slot) || g < 1 || g > MOST_ROWS) {
            return OUTSIDE;
        }
        if (joins.made == NONE || table.rows < g) {
            return STATE;
        }
        joins.split(table.rows, g);
        slots[slot].fill(joins.labels, table.rows, g);
        return 1;
    }

    public int of(int slot, int i) {
        if (!isRow(i)) {
            return UNKNOWN;
        }
        if (!isSlot(slot)) {
            return OUTSIDE;
        }
        if (slots[slot].isEmpty()) {
            return STATE;
        }
        return slots[slot].groupOf[i];
    }

    public int size(int slot, int g) {
        int refusal = refusalOfGroup(slot, g);
        if (refusal != 0) {
            return refusal;
        }
        return slots[slot].sizes[g];
    }

    public int mean(int slot, int g, int column, int side) {
        int refusal = refusalOfGroup(slot, g);
        if (refusal != 0) {
            return refusal;
        }
        if (column < 0 || column >= table.width || !isSide(side)) {
            return OUTSIDE;
        }
        reckonMean(slots[slot], g, column);
        return (int) told.part(side);
    }

    public long sum(int slot, int side) {
        if (!isSlot(slot) || !isSide(side)) {
            return OUTSIDE;
        }
        if (slots[slot].isEmpty()) {
            return STATE;
        }
        reckonSum(slots[slot]);
        return told.part(side);
    }

    public long well(int slot, int kind, int i, int side) {
        if (!isRow(i)) {
            return UNKNOWN;
        }
        if (!isSlot(slot) || !isKind(kind) || !isSide(side)) {
            return OUTSIDE;
        }
        if (slots[slot].isEmpty() || slots[slot].groupOf[i] == NONE) {
            return STATE;
        }
        reckonWell(slots[slot], kind, i);
        return told.part(side);
    }

    public int agree(int what) {
        if (what < 0 || what > 3) {
            return OUTSIDE;
        }
        if (slots[0].isEmpty() || slots[1].isEmpty()) {
            return STATE;
        }
        int pairs = 0;
        for (int i = 0; i < table.rows; i++) {
            for (int j = i + 1; j < table.rows; j++) {
                if (agreementOf(i, j) == what) {
                    pairs++;
                }
            }
        }
        return pairs;
    }

    private void forgetGroupings() {
        for (int slot = 0; slot < SLOTS; slot++) {
            slots[slot].groups = NONE;
        }
        bestRows.wanted = 0;
        joins.made = NONE;
    }

    private boolean isRow(int i) {
        return i >= 0 && i < table.rows;
    }

    private static boolean isKind(int kind) {
        return kind >= 0 && kind < KINDS;
    }

    private static boolean isSlot(int slot) {
        return slot >= 0 && slot < SLOTS;
    }

    private static boolean isSide(int side) {
        return side >= 0 && side < SIDES;
    }

    /** 0, if the slot has the group: here the slot is looked at before the group. */
    private int refusalOfGroup(int slot, int g) {
        if (!isSlot(slot)) {
            return OUTSIDE;
        }
        if (slots[slot].isEmpty()) {
            return STATE;
        }
        return g >= 0 && g < slots[slot].groups ? 0 : UNKNOWN;
    }

    private void reckonMean(Grouping grouping, int g, int column) {
        int members = grouping.sizes[g];
        if (members == 0) {
            told.put(0, 1);
        } else {
            told.put(grouping.total(table, g, column), members);
        }
    }

    private void reckonSum(Grouping grouping) {
        told.put(0, 1);
        for (int g = 0; g < grouping.groups; g++) {
            if (grouping.sizes[g] > 0) {
                told.add(grouping.squaresTimesSize(table, g), grouping.sizes[g]);
            }
        }
    }

    private void reckonWell(Grouping grouping, int kind, int i) {
        int own = grouping.groupOf[i];
        int nearest = nearestOtherGroup(grouping, kind, i);
        if (nearest == NONE || grouping.sizes[own] < 2) {
            told.put(0, 1);
            return;
        }
        // both means over the same divisor, which then falls out of the quotient
        long x = grouping.distancesTo(table, kind, i, own) * grouping.sizes[nearest];
        long y = grouping.distancesTo(table, kind, i, nearest) * (grouping.sizes[own] - 1);
        long greater = Math.max(x, y);
        if (greater == 0) {
            told.put(0, 1);
        } else {
            told.put(y - x, greater);
        }
    }

    private int nearestOtherGroup(Grouping grouping, int kind, int i) {
        int nearest = NONE;
        long above = 0;
        long below = 1;
        for (int g = 0; g < grouping.groups; g++) {
            if (g != grouping.groupOf[i] && grouping.sizes[g] > 0) {
                long distances = grouping.distancesTo(table, kind, i, g);
                if (nearest == NONE || isLess(distances, grouping.sizes[g], above, below)) {
                    nearest = g;
                    above = distances;
                    below = grouping.sizes[g];
                }
            }
        }
        return nearest;
    }

    /** What agree() counts such a pair under; NONE, if a row of it is in no group. */
    private int agreementOf(int i, int j) {
        if (!slots[0].holdsBoth(i, j) || !slots[1].holdsBoth(i, j)) {
            return NONE;
        }
        boolean inFirst = slots[0].groupOf[i] == slots[0].groupOf[j];
        boolean inSecond = slots[1].groupOf[i] == slots[1].groupOf[j];
        if (inFirst) {
            return inSecond ? 0 : 1;
        }
        return inSecond ? 2 : 3;
    }

    /** Whether a / b is less than c / d, where b and d are above 0. */
    private static boolean isLess(long a, long b, long c, long d) {
        return a * d < c * b;
    }

    /** A fraction in least terms, used again for every answer so that no call makes objects. */
    private static final class Fraction {
        // Euclid needs fewer than a hundred turns for any two longs
        private static final int MOST_TURNS = 200;

        private long above;
        private long below;

        Fraction() {
            above = 0;
            below = 1;
        }

        void put(long newAbove, long newBelow) {
            long divisor = commonDivisor(Math.abs(newAbove), newBelow);
            if (divisor > 0) {
                above = newAbove / divisor;
                below = newBelow / divisor;
            }
        }

        void add(long otherAbove, long otherBelow) {
            put(above * otherBelow + otherAbove * below, below * otherBelow);
        }

        long part(int side) {
            return side == 0 ? above : below;
        }

        private static long commonDivisor(long a, long b) {
            long greater = a;
            long lesser = b;
            for (int turn = 0; turn < MOST_TURNS && lesser != 0; turn++) {
                long rest = greater % lesser;
                greater = lesser;
                lesser = rest;
            }
            return greater;
        }
    }

    /** The rows, and how far apart each two of them are, reckoned once as a row comes. */
    private static final class Table {
        private final int[] cells;
        private final int[] distances;
        private int width;
        private int rows;

        Table() {
            cells = new int[MOST_ROWS * MOST_COLUMNS];
            distances = new int[KINDS * MOST_ROWS * MOST_ROWS];
            width = FIRST_COLUMNS;
            rows = 0;
        }

        boolean takes(int column, int number) {
            return column >= width || (number >= -MOST_NUMBER && number <= MOST_NUMBER);
        }

        int append(int a, int b, int c, int d) {
            int added = rows;
            int start = added * MOST_COLUMNS;
            cells[start] = a;
            cells[start + 1] = b;
            cells[start + 2] = c;
            cells[start + 3] = d;
            for (int other = 0; other <= added; other++) {
                measure(added, other);
            }
            rows = added + 1;
            return added;
        }

        int cell(int i, int column) {
            return cells[i * MOST_COLUMNS + column];
        }

        int apart(int kind, int i, int j) {
            return distances[placeOf(kind, i) + j];
        }

        /** Where the distances of row i to all rows begin. */
        int placeOf(int kind, int i) {
            return (kind * MOST_ROWS + i) * MOST_ROWS;
        }

        /** How many rows come before the other one, when they are told from row i on outwards. */
        int nearerThan(int kind, int i, int other) {
            int limit = apart(kind, i, other);
            int nearer = 0;
            for (int r = 0; r < rows; r++) {
                int reach = apart(kind, i, r);
                if (r != i && (reach < limit || (reach == limit && r < other))) {
                    nearer++;
                }
            }
            return nearer;
        }

        private void measure(int i, int j) {
            int squares = 0;
            int whole = 0;
            int greatest = 0;
            for (int column = 0; column < width; column++) {
                int gap = Math.abs(cell(i, column) - cell(j, column));
                squares += gap * gap;
                whole += gap;
                greatest = Math.max(greatest, gap);
            }
            note(0, i, j, squares);
            note(1, i, j, whole);
            note(2, i, j, greatest);
        }

        private void note(int kind, int i, int j, int length) {
            distances[placeOf(kind, i) + j] = length;
            distances[placeOf(kind, j) + i] = length;
        }
    }

    /** What a slot holds: the group of each row; groups is NONE while the slot is empty. */
    private static final class Grouping {
        private final int[] groupOf;
        private final int[] sizes;
        private int rows;
        private int groups;

        Grouping() {
            groupOf = new int[MOST_ROWS];
            sizes = new int[MOST_ROWS];
            rows = 0;
            groups = NONE;
        }

        boolean isEmpty() {
            return groups == NONE;
        }

        void fill(int[] labels, int newRows, int newGroups) {
            rows = newRows;
            groups = newGroups;
            for (int g = 0; g < groups; g++) {
                sizes[g] = 0;
            }
            for (int r = 0; r < rows; r++) {
                groupOf[r] = labels[r];
                if (labels[r] != NONE) {
                    sizes[labels[r]]++;
                }
            }
        }

        boolean holdsBoth(int i, int j) {
            return groupOf[i] != NONE && groupOf[j] != NONE;
        }

        long total(Table table, int g, int column) {
            long total = 0;
            for (int r = 0; r < rows; r++) {
                if (groupOf[r] == g) {
                    total += table.cell(r, column);
                }
            }
            return total;
        }

        /** The sum of squares from the group's mean, times the group's size, which makes it whole. */
        long squaresTimesSize(Table table, int g) {
            long squares = 0;
            for (int column = 0; column < table.width; column++) {
                long total = total(table, g, column);
                squares += sizes[g] * totalOfSquares(table, g, column) - total * total;
            }
            return squares;
        }

        long distancesTo(Table table, int kind, int i, int g) {
            long total = 0;
            for (int r = 0; r < rows; r++) {
                if (groupOf[r] == g) {
                    total += table.apart(kind, i, r);
                }
            }
            return total;
        }

        private long totalOfSquares(Table table, int g, int column) {
            long total = 0;
            for (int r = 0; r < rows; r++) {
                if (groupOf[r] == g) {
                    long number = table.cell(r, column);
                    total += number * number;
                }
            }
            return total;
        }
    }

    /** Grouping by rounds of means; a mean is kept as the totals of its rows and how many they are. */
    private static final class MeanRounds {
        private final int[] labels;
        private final int[] before;
        private final int[] sizes;
        private final int[] totals;
        private final int[] divisors;
        private final int[] leasts;
        private int groups;

        MeanRounds() {
            labels = new int[MOST_ROWS];
            before = new int[MOST_ROWS];
            sizes = new int[MOST_MEANS];
            totals = new int[MOST_MEANS * MOST_COLUMNS];
            divisors = new int[MOST_MEANS];
            leasts = new int[MOST_ROWS];
            groups = 0;
        }

        /** Leaves the grouping in labels and answers how many rounds it took. */
        int run(Table table, int k) {
            groups = k;
            chooseFirstMeans(table);
            for (int r = 0; r < table.rows; r++) {
                before[r] = NONE;
            }
            for (int round = 1; round < MOST_ROUNDS; round++) {
                if (!moveRows(table)) {
                    return round;
                }
                remakeMeans(table);
            }
            moveRows(table);
            return MOST_ROUNDS;
        }

        private void chooseFirstMeans(Table table) {
            for (int r = 0; r < table.rows; r++) {
                leasts[r] = BEYOND_ALL;
            }
            int chosen = 0;
            for (int g = 0; g < groups; g++) {
                putFirstMean(table, g, chosen);
                chosen = farthestFromChosen(table, chosen);
            }
        }

        private void putFirstMean(Table table, int g, int chosen) {
            divisors[g] = 1;
            for (int column = 0; column < table.width; column++) {
                totals[g * MOST_COLUMNS + column] = table.cell(chosen, column);
            }
        }

        /** The next row to choose, once the latest is marked as chosen (NONE, so below all others). */
        private int farthestFromChosen(Table table, int latest) {
            int farthest = 0;
            leasts[latest] = NONE;
            for (int r = 0; r < table.rows; r++) {
                leasts[r] = Math.min(leasts[r], table.apart(SQUARES, latest, r));
                if (leasts[r] > leasts[farthest]) {
                    farthest = r;
                }
            }
            return farthest;
        }

        /** One round but for the new means; answers whether a row is in another group than before. */
        private boolean moveRows(Table table) {
            for (int g = 0; g < groups; g++) {
                sizes[g] = 0;
            }
            for (int r = 0; r < table.rows; r++) {
                labels[r] = nearestMean(table, r);
                sizes[labels[r]]++;
            }
            for (int g = 0; g < groups; g++) {
                if (sizes[g] == 0) {
                    takeFarthest(table, g);
                }
            }
            return noteMoves(table.rows);
        }

        private int nearestMean(Table table, int r) {
            int nearest = 0;
            long least = squaresAbove(table, r, 0);
            for (int g = 1; g < groups; g++) {
                long squares = squaresAbove(table, r, g);
                if (isLess(squares, squaresBelow(g), least, squaresBelow(nearest))) {
                    nearest = g;
                    least = squares;
                }
            }
            return nearest;
        }

        private void takeFarthest(Table table, int g) {
            int farthest = NONE;
            long greatest = 0;
            long below = 1;
            for (int r = 0; r < table.rows; r++) {
                int own = labels[r];
                if (sizes[own] >= 2) {
                    long squares = squaresAbove(table, r, own);
                    if (farthest == NONE || isLess(greatest, below, squares, squaresBelow(own))) {
                        farthest = r;
                        greatest = squares;
                        below = squaresBelow(own);
                    }
                }
            }
            if (farthest != NONE) {
                sizes[labels[farthest]]--;
                labels[farthest] = g;
                sizes[g]++;
            }
        }

        private boolean noteMoves(int rows) {
            boolean moved = false;
            for (int r = 0; r < rows; r++) {
                if (labels[r] != before[r]) {
                    moved = true;
                }
                before[r] = labels[r];
            }
            return moved;
        }

        private void remakeMeans(Table table) {
            for (int g = 0; g < groups; g++) {
                divisors[g] = sizes[g];
                for (int column = 0; column < table.width; column++) {
                    totals[g * MOST_COLUMNS + column] = 0;
                }
            }
            for (int r = 0; r < table.rows; r++) {
                for (int column = 0; column < table.width; column++) {
                    totals[labels[r] * MOST_COLUMNS + column] += table.cell(r, column);
                }
            }
        }

        /** The squares from row to mean are squaresAbove / squaresBelow. */
        private long squaresAbove(Table table, int r, int g) {
            long squares = 0;
            for (int column = 0; column < table.width; column++) {
                long gap = table.cell(r, column) * divisors[g] - totals[g * MOST_COLUMNS + column];
                squares += gap * gap;
            }
            return squares;
        }

        private long squaresBelow(int g) {
            return divisors[g] * divisors[g];
        }
    }

    /** Grouping by the best few rows: every choice is tried, in the order in which equals are told. */
    private static final class BestRows {
        private final int[] labels;
        private final int[] best;
        private final int[] trial;
        // level n: the least distance of each row to the first n rows of the trial
        private final int[] leasts;
        private int wanted;
        private int bestTotal;

        BestRows() {
            labels = new int[MOST_ROWS];
            best = new int[MOST_BEST];
            trial = new int[MOST_BEST];
            leasts = new int[MOST_BEST * MOST_ROWS];
            wanted = 0;
            bestTotal = 0;
        }

        /** Leaves the rows in best and the grouping in labels, and answers the least sum. */
        int search(Table table, int kind, int k) {
            wanted = k;
            bestTotal = BEYOND_ALL;
            for (int r = 0; r < table.rows; r++) {
                leasts[r] = BEYOND_ALL;
            }
            tryRows(table, kind, 0, 0);
            for (int r = 0; r < table.rows; r++) {
                labels[r] = nearestBest(table, kind, r);
            }
            return bestTotal;
        }

        private void tryRows(Table table, int kind, int level, int from) {
            if (level >= wanted) {
                return;
            }
            for (int chosen = from; chosen < table.rows; chosen++) {
                trial[level] = chosen;
                if (level + 1 < wanted) {
                    lowerLeasts(table, kind, level, chosen);
                    tryRows(table, kind, level + 1, chosen + 1);
                } else {
                    weighTrial(table, kind, level, chosen);
                }
            }
        }

        private void lowerLeasts(Table table, int kind, int level, int chosen) {
            int place = table.placeOf(kind, chosen);
            int start = level * MOST_ROWS;
            for (int r = 0; r < table.rows; r++) {
                leasts[start + MOST_ROWS + r] = Math.min(leasts[start + r], table.distances[place + r]);
            }
        }

        private void weighTrial(Table table, int kind, int level, int chosen) {
            int place = table.placeOf(kind, chosen);
            int start = level * MOST_ROWS;
            int total = 0;
            // a sum that is no longer less can't become the best one
            for (int r = 0; r < table.rows && total < bestTotal; r++) {
                total += Math.min(leasts[start + r], table.distances[place + r]);
            }
            if (total < bestTotal) {
                bestTotal = total;
                for (int n = 0; n < wanted; n++) {
                    best[n] = trial[n];
                }
            }
        }

        private int nearestBest(Table table, int kind, int r) {
            int nearest = 0;
            for (int n = 1; n < wanted; n++) {
                if (table.apart(kind, best[n], r) < table.apart(kind, best[nearest], r)) {
                    nearest = n;
                }
            }
            return nearest;
        }
    }

    /** Grouping by density. */
    private static final class DenseRows {
        private final int[] labels;
        private final boolean[] cores;
        private final int[] waiting;

        DenseRows() {
            labels = new int[MOST_ROWS];
            cores = new boolean[MOST_ROWS];
            waiting = new int[MOST_ROWS];
        }

        /** Leaves the grouping in labels and answers how many groups there are. */
        int spread(Table table, int kind, int reach, int enough) {
            for (int r = 0; r < table.rows; r++) {
                labels[r] = NONE;
                cores[r] = rowsWithin(table, kind, reach, r) >= enough;
            }
            int groups = 0;
            for (int r = 0; r < table.rows; r++) {
                if (cores[r] && labels[r] == NONE) {
                    spreadFrom(table, kind, reach, r, groups);
                    groups++;
                }
            }
            for (int r = 0; r < table.rows; r++) {
                if (!cores[r]) {
                    labels[r] = leastGroupWithin(table, kind, reach, r);
                }
            }
            return groups;
        }

        private int rowsWithin(Table table, int kind, int reach, int r) {
            int within = 0;
            for (int other = 0; other < table.rows; other++) {
                if (table.apart(kind, r, other) <= reach) {
                    within++;
                }
            }
            return within;
        }

        private void spreadFrom(Table table, int kind, int reach, int first, int g) {
            labels[first] = g;
            waiting[0] = first;
            int known = 1;
            for (int next = 0; next < known && next < MOST_ROWS; next++) {
                for (int other = 0; other < table.rows; other++) {
                    if (cores[other] && labels[other] == NONE
                            && table.apart(kind, waiting[next], other) <= reach) {
                        labels[other] = g;
                        waiting[known] = other;
                        known++;
                    }
                }
            }
        }

        private int leastGroupWithin(Table table, int kind, int reach, int r) {
            int least = NONE;
            for (int other = 0; other < table.rows; other++) {
                if (cores[other] && table.apart(kind, r, other) <= reach
                        && (least == NONE || labels[other] < least)) {
                    least = labels[other];
                }
            }
            return least;
        }
    }

    /** The tree as the row of its joins; made is NONE while there is no tree. */
    private static final class Joins {
        private final int[] firsts;
        private final int[] seconds;
        private final int[] together;
        private final long[] aboves;
        private final long[] belows;
        private final int[] labels;
        // a cluster stands at the place of its least row; its size is 0 once it is joined to another
        private final int[] sizes;
        private final long[] totals;
        private final long[] gaps;
        private final Fraction told;
        private int way;
        private int made;

        Joins() {
            firsts = new int[MOST_ROWS];
            seconds = new int[MOST_ROWS];
            together = new int[MOST_ROWS];
            aboves = new long[MOST_ROWS];
            belows = new long[MOST_ROWS];
            labels = new int[MOST_ROWS];
            sizes = new int[MOST_ROWS];
            totals = new long[MOST_ROWS * MOST_COLUMNS];
            gaps = new long[MOST_ROWS * MOST_ROWS];
            told = new Fraction();
            way = BY_LEAST;
            made = NONE;
        }

        int build(Table table, int newWay, int kind) {
            way = newWay;
            placeRows(table, kind);
            made = 0;
            for (int step = 1; step < table.rows; step++) {
                findNearest(table);
                merge(table, firsts[made], seconds[made]);
                together[made] = sizes[firsts[made]];
                made++;
            }
            return made;
        }

        /** Leaves in labels the groups that are there when so many clusters are left. */
        void split(int rows, int left) {
            for (int r = 0; r < rows; r++) {
                labels[r] = r;
            }
            for (int step = 0; step < rows - left && step < made; step++) {
                for (int r = 0; r < rows; r++) {
                    if (labels[r] == seconds[step]) {
                        labels[r] = firsts[step];
                    }
                }
            }
            numberByLeastRows(rows);
        }

        private void numberByLeastRows(int rows) {
            int numbered = 0;
            for (int r = 0; r < rows; r++) {
                if (labels[r] == r) {
                    labels[r] = numbered;
                    numbered++;
                } else {
                    // the cluster's least row came earlier, so its place has the number already
                    labels[r] = labels[labels[r]];
                }
            }
        }

        private void placeRows(Table table, int kind) {
            for (int r = 0; r < table.rows; r++) {
                sizes[r] = 1;
                for (int column = 0; column < table.width; column++) {
                    totals[r * MOST_COLUMNS + column] = table.cell(r, column);
                }
                for (int other = 0; other < table.rows; other++) {
                    gaps[r * MOST_ROWS + other] = table.apart(kind, r, other);
                }
            }
        }

        /** Writes down the next join: the two clusters and how far apart they are. */
        private void findNearest(Table table) {
            boolean found = false;
            long above = 0;
            long below = 1;
            for (int a = 0; a < table.rows; a++) {
                for (int b = a + 1; b < table.rows; b++) {
                    if (sizes[a] > 0 && sizes[b] > 0) {
                        long newAbove = gapAbove(table, a, b);
                        long newBelow = gapBelow(a, b);
                        if (!found || isLess(newAbove, newBelow, above, below)) {
                            found = true;
                            above = newAbove;
                            below = newBelow;
                            firsts[made] = a;
                            seconds[made] = b;
                        }
                    }
                }
            }
            told.put(above, below);
            aboves[made] = told.above;
            belows[made] = told.below;
        }

        private long gapAbove(Table table, int a, int b) {
            if (way != BY_GROWTH) {
                return gaps[a * MOST_ROWS + b];
            }
            long squares = 0;
            for (int column = 0; column < table.width; column++) {
                long gap = totals[a * MOST_COLUMNS + column] * sizes[b] - totals[b * MOST_COLUMNS + column] * sizes[a];
                squares += gap * gap;
            }
            return squares;
        }

        private long gapBelow(int a, int b) {
            switch (way) {
                case BY_MEAN:
                    return sizes[a] * sizes[b];
                case BY_GROWTH:
                    return sizes[a] * sizes[b] * (sizes[a] + sizes[b]);
                default:
                    return 1;
            }
        }

        private void merge(Table table, int a, int b) {
            for (int other = 0; other < table.rows; other++) {
                if (sizes[other] > 0 && other != a && other != b) {
                    long gap = gapToBoth(gaps[a * MOST_ROWS + other], gaps[b * MOST_ROWS + other]);
                    gaps[a * MOST_ROWS + other] = gap;
                    gaps[other * MOST_ROWS + a] = gap;
                }
            }
            for (int column = 0; column < table.width; column++) {
                totals[a * MOST_COLUMNS + column] += totals[b * MOST_COLUMNS + column];
            }
            sizes[a] += sizes[b];
            sizes[b] = 0;
        }

        private long gapToBoth(long first, long second) {
            switch (way) {
                case BY_LEAST:
                    return Math.min(first, second);
                case BY_GREATEST:
                    return Math.max(first, second);
                default:
                    return first + second;
            }
        }
    }
}
