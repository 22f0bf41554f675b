/** The promises one by one: ordinary inputs, the edges that the document names, wrong inputs. */
public final class PromisesTest {
    private static final int NONE = -1, UNKNOWN = -2000000001, OUTSIDE = -2000000002, STATE = -2000000003, ROOM = -2000000004;
    private static final int LEAST = Integer.MIN_VALUE, MOST = Integer.MAX_VALUE;
    private static int wrong = 0;
    private static int promise = 0;

    public static void main(String[] args) {
        newObject();
        columns();
        row();
        clear();
        count();
        distance();
        near();
        means();
        meansTakeRows();
        medoids();
        medoid();
        density();
        tree();
        join();
        cut();
        of();
        size();
        mean();
        sum();
        well();
        agree();
        System.out.println(wrong == 0 ? "all promises hold" : wrong + " answers are not as due");
        if (wrong != 0) System.exit(1);
    }

    private static void due(String call, long got, long want) {
        if (got == want) return;
        wrong++;
        System.out.println("promise " + promise + ": " + call + " answered " + got + ", due is " + want);
    }

    /** An object with one column and these rows. */
    private static NearGroups line(int... numbers) {
        NearGroups x = new NearGroups();
        x.columns(1);
        for (int number : numbers) x.row(number, 0, 0, 0);
        return x;
    }

    private static void dueGroups(String call, NearGroups x, int slot, int... groups) {
        for (int r = 0; r < groups.length; r++) due(call + ": of(" + slot + ", " + r + ")", x.of(slot, r), groups[r]);
    }

    private static void dueJoin(NearGroups x, int i, long... parts) {
        for (int what = 0; what < 5; what++) due("join(" + i + ", " + what + ")", x.join(i, what), parts[what]);
    }

    private static void newObject() {
        promise = 1;
        NearGroups used = line(1, 2, 3);
        used.means(0, 2);
        used.tree(0, 0);
        NearGroups x = new NearGroups();
        due("count(0)", x.count(0), 0);
        due("count(1)", x.count(1), 2);
        for (int what = 2; what <= 4; what++) due("count(" + what + ")", x.count(what), NONE);
        due("medoid(0)", x.medoid(0), NONE);
        due("distance(0, 0, 0)", x.distance(0, 0, 0), UNKNOWN);
        due("the other object's count(0)", used.count(0), 3);
        due("the other object's count(4)", used.count(4), 2);
    }

    private static void columns() {
        promise = 2;
        NearGroups x = new NearGroups();
        for (int n : new int[] {0, 5, -1, LEAST, MOST}) due("columns(" + n + ")", x.columns(n), OUTSIDE);
        due("count(1)", x.count(1), 2);
        for (int n = 1; n <= 4; n++) {
            due("columns(" + n + ")", x.columns(n), 1);
            due("count(1)", x.count(1), n);
        }
        x.row(0, 0, 0, 0);
        due("columns(4) with a row", x.columns(4), STATE);
        due("columns(1) with a row", x.columns(1), STATE);
        due("columns(5) with a row", x.columns(5), OUTSIDE);
        due("count(1)", x.count(1), 4);
        x.clear();
        due("columns(3) behind clear", x.columns(3), 1);
        due("count(1)", x.count(1), 3);
    }

    private static void row() {
        promise = 3;
        for (int n = 1; n <= 4; n++) {
            NearGroups x = new NearGroups();
            x.columns(n);
            due("the least numbers", x.row(-1000, -1000, -1000, -1000), 0);
            due("the greatest numbers", x.row(1000, 1000, 1000, 1000), 1);
            for (int bad : new int[] {1001, -1001, LEAST, MOST}) {
                for (int c = 0; c < 4; c++) {
                    int rows = x.count(0);
                    due(n + " columns, " + bad + " in " + c, x.row(c == 0 ? bad : 0, c == 1 ? bad : 0, c == 2 ? bad : 0, c == 3 ? bad : 0), c < n ? OUTSIDE : rows);
                }
            }
            due("what is not looked at does not count", x.distance(1, 0, 1), 2000 * n);
        }
        NearGroups full = new NearGroups();
        for (int r = 0; r < 30; r++) due("row " + r, full.row(r, 0, 0, 0), r);
        due("row 30", full.row(0, 0, 0, 0), ROOM);
        due("row 30, out of bounds", full.row(1001, 0, 0, 0), OUTSIDE);
        due("count(0)", full.count(0), 30);
        rowEmptiesGroupings();
    }

    private static void rowEmptiesGroupings() {
        NearGroups x = line(1, 2, 3);
        x.means(0, 2);
        x.medoids(1, 0, 1);
        x.tree(0, 0);
        due("a refused row", x.row(1001, 0, 0, 0), OUTSIDE);
        due("count(2)", x.count(2), 2);
        due("count(3)", x.count(3), 1);
        due("count(4)", x.count(4), 2);
        due("medoid(0)", x.medoid(0), 1);
        due("a row", x.row(4, 0, 0, 0), 3);
        for (int what = 2; what <= 4; what++) due("count(" + what + ")", x.count(what), NONE);
        due("medoid(0)", x.medoid(0), NONE);
        due("of(0, 0)", x.of(0, 0), STATE);
        due("cut(0, 1)", x.cut(0, 1), STATE);
    }

    private static void clear() {
        promise = 4;
        NearGroups x = new NearGroups();
        due("clear()", x.clear(), 0);
        x.columns(3);
        x.row(1, 2, 3, 0);
        x.row(4, 5, 6, 0);
        x.means(0, 1);
        x.medoids(1, 0, 1);
        x.tree(0, 0);
        due("clear()", x.clear(), 2);
        due("clear()", x.clear(), 0);
        due("count(0)", x.count(0), 0);
        due("count(1)", x.count(1), 3);
        for (int what = 2; what <= 4; what++) due("count(" + what + ")", x.count(what), NONE);
        due("medoid(0)", x.medoid(0), NONE);
        due("join(0, 0)", x.join(0, 0), STATE);
        due("of(0, 0)", x.of(0, 0), UNKNOWN);
        due("row", x.row(7, 7, 7, 0), 0);
        due("of(0, 0)", x.of(0, 0), STATE);
        due("row", x.row(7, 7, 8, 0), 1);
        due("distance(0, 0, 1)", x.distance(0, 0, 1), 1);
    }

    private static void count() {
        promise = 5;
        NearGroups x = line(5);
        for (int what : new int[] {-1, 5, LEAST, MOST}) due("count(" + what + ")", x.count(what), OUTSIDE);
        x.tree(0, 0);
        due("a tree without joins", x.count(4), 0);
        x.row(5, 0, 0, 0);
        x.row(9, 0, 0, 0);
        due("count(0)", x.count(0), 3);
        due("count(1)", x.count(1), 1);
        due("count(2)", x.count(2), NONE);
        x.density(0, 0, 0, 30);
        due("a grouping without groups", x.count(2), 0);
        due("count(3)", x.count(3), NONE);
        x.medoids(1, 0, 3);
        due("a group without rows is a group", x.count(3), 3);
        due("count(4)", x.count(4), NONE);
        x.tree(0, 0);
        due("count(4)", x.count(4), 2);
        x.cut(0, 2);
        due("count(2)", x.count(2), 2);
    }

    private static void distance() {
        promise = 6;
        NearGroups x = new NearGroups();
        x.columns(4);
        x.row(1, 2, 3, 4);
        x.row(4, -2, 3, -8);
        x.row(-1000, -1000, -1000, -1000);
        x.row(1000, 1000, 1000, 1000);
        int[] near = {169, 19, 12};
        int[] far = {16000000, 8000, 2000};
        for (int kind = 0; kind < 3; kind++) {
            due("kind " + kind, x.distance(kind, 0, 1), near[kind]);
            due("kind " + kind + " turned", x.distance(kind, 1, 0), near[kind]);
            due("kind " + kind + " farthest", x.distance(kind, 2, 3), far[kind]);
            due("kind " + kind + " to itself", x.distance(kind, 1, 1), 0);
        }
        for (int bad : new int[] {-1, 4, LEAST, MOST}) {
            due("distance(0, bad, 0)", x.distance(0, bad, 0), UNKNOWN);
            due("distance(0, 0, bad)", x.distance(0, 0, bad), UNKNOWN);
            due("distance(9, 0, bad)", x.distance(9, 0, bad), UNKNOWN);
        }
        for (int bad : new int[] {-1, 3, LEAST, MOST}) due("distance(bad, 0, 1)", x.distance(bad, 0, 1), OUTSIDE);
        NearGroups two = new NearGroups();
        two.row(0, 0, 500, 500);
        two.row(3, 4, -500, 0);
        due("two columns", two.distance(0, 0, 1), 25);
    }

    private static void near() {
        promise = 7;
        NearGroups x = new NearGroups();
        int[][] rows = {{0, 0}, {3, 3}, {0, 4}, {5, 0}, {-4, 0}, {0, 0}};
        for (int[] row : rows) x.row(row[0], row[1], 0, 0);
        int[][] orders = {{5, 2, 4, 1, 3}, {5, 2, 4, 3, 1}, {5, 1, 2, 4, 3}};
        for (int kind = 0; kind < 3; kind++) {
            for (int k = 0; k < 5; k++) due("near(" + kind + ", 0, " + k + ")", x.near(kind, 0, k), orders[kind][k]);
            for (int k : new int[] {-1, 5, LEAST, MOST}) due("near(" + kind + ", 0, " + k + ")", x.near(kind, 0, k), NONE);
        }
        due("the alike row is the nearest", x.near(0, 5, 0), 0);
        for (int bad : new int[] {-1, 6, LEAST, MOST}) {
            due("near(0, bad, 0)", x.near(0, bad, 0), UNKNOWN);
            due("near(3, bad, 0)", x.near(3, bad, 0), UNKNOWN);
        }
        for (int bad : new int[] {-1, 3, LEAST, MOST}) due("near(bad, 0, 99)", x.near(bad, 0, 99), OUTSIDE);
        due("one row has none near", line(3).near(0, 0, 0), NONE);
    }

    private static void means() {
        promise = 8;
        NearGroups x = line(0, 100, 51, 40, 50, 50, 50);
        due("means(0, 2)", x.means(0, 2), 3);
        dueGroups("means(0, 2)", x, 0, 0, 1, 0, 0, 0, 0, 0);
        due("mean above", x.mean(0, 0, 0, 0), 241);
        due("mean below", x.mean(0, 0, 0, 1), 6);
        due("means(0, 1)", x.means(0, 1), 2);
        dueGroups("means(0, 1)", x, 0, 0, 0, 0, 0, 0, 0, 0);
        NearGroups tie = line(0, 4, 2);
        due("of equals the least group", tie.means(1, 2), 2);
        dueGroups("of equals the least group", tie, 1, 0, 1, 0);
        due("count(2)", tie.count(2), NONE);
        NearGroups first = line(0, 5, -5, 5);
        first.means(0, 2);
        dueGroups("of equally far ones the least row is chosen", first, 0, 0, 1, 0, 1);
        NearGroups turns = line(0, 3, 10);
        due("as many as rows", turns.means(0, 3), 2);
        dueGroups("groups by turns of choosing", turns, 0, 0, 2, 1);
        for (int k : new int[] {0, 7, -1, LEAST, MOST}) due("means(0, " + k + ")", turns.means(0, k), OUTSIDE);
        for (int slot : new int[] {-1, 2, LEAST, MOST}) due("means(" + slot + ", 1)", turns.means(slot, 1), OUTSIDE);
        due("fewer rows", turns.means(0, 4), STATE);
        due("fewer rows, no such slot", turns.means(2, 4), OUTSIDE);
        due("no rows", new NearGroups().means(0, 1), STATE);
        due("six", line(1, 2, 3, 4, 5, 6).means(0, 6), 2);
    }

    private static void meansTakeRows() {
        promise = 8;
        NearGroups alike = line(3, 3, 9);
        due("an empty group takes a row", alike.means(0, 3), 2);
        dueGroups("an empty group takes a row", alike, 0, 2, 0, 1);
        NearGroups all = line(7, 7, 7, 7);
        all.means(0, 3);
        dueGroups("all alike", all, 0, 1, 2, 0, 0);
    }

    private static void medoids() {
        promise = 9;
        NearGroups x = line(0, 2, 3, 10, 12);
        due("k 1, kind 1", x.medoids(0, 1, 1), 20);
        due("medoid(0)", x.medoid(0), 2);
        due("k 1, kind 0", x.medoids(0, 0, 1), 140);
        due("k 2, kind 1", x.medoids(0, 1, 2), 5);
        due("medoid(0)", x.medoid(0), 1);
        due("medoid(1)", x.medoid(1), 3);
        dueGroups("k 2, kind 1", x, 0, 0, 0, 0, 1, 1);
        due("k 2, kind 0", x.medoids(1, 0, 2), 9);
        due("k 3, kind 2", x.medoids(1, 2, 3), 3);
        int[] best = {0, 1, 3};
        for (int i = 0; i < 3; i++) due("of equals the first by their numbers", x.medoid(i), best[i]);
        dueGroups("k 3, kind 2", x, 1, 0, 1, 1, 2, 2);
        NearGroups tie = line(0, 4, 2);
        due("of equals the least i", tie.medoids(0, 1, 2), 2);
        dueGroups("of equals the least i", tie, 0, 0, 1, 0);
        NearGroups alike = line(5, 5, 9);
        due("alike rows", alike.medoids(0, 0, 3), 0);
        dueGroups("alike rows", alike, 0, 0, 0, 2);
        NearGroups far = new NearGroups();
        far.columns(4);
        for (int r = 0; r < 30; r++) far.row(r < 15 ? 1000 : -1000, r < 15 ? 1000 : -1000, r < 15 ? 1000 : -1000, r < 15 ? 1000 : -1000);
        due("the greatest sum", far.medoids(0, 0, 1), 240000000);
        due("two ends", far.medoids(0, 0, 2), 0);
        due("the other end's first row", far.medoid(1), 15);
        for (int k : new int[] {0, 4, -1, LEAST, MOST}) due("medoids(0, 0, " + k + ")", x.medoids(0, 0, k), OUTSIDE);
        for (int kind : new int[] {-1, 3, LEAST, MOST}) due("medoids(0, " + kind + ", 1)", x.medoids(0, kind, 1), OUTSIDE);
        for (int slot : new int[] {-1, 2, LEAST, MOST}) due("medoids(" + slot + ", 0, 1)", x.medoids(slot, 0, 1), OUTSIDE);
        due("fewer rows", line(1, 2).medoids(0, 0, 3), STATE);
        due("fewer rows, no such kind", line(1, 2).medoids(0, 3, 3), OUTSIDE);
        due("no rows", new NearGroups().medoids(0, 0, 1), STATE);
    }

    private static void medoid() {
        promise = 10;
        NearGroups x = line(0, 2, 3, 10, 12);
        due("none yet", x.medoid(0), NONE);
        x.medoids(0, 1, 2);
        x.means(0, 2);
        due("the slot has another grouping", x.medoid(1), 3);
        due("refused", x.medoids(0, 1, 4), OUTSIDE);
        due("behind a refused one", x.medoid(0), 1);
        for (int i : new int[] {-1, 2, 3, LEAST, MOST}) due("medoid(" + i + ")", x.medoid(i), NONE);
        x.medoids(1, 1, 1);
        due("the latest", x.medoid(0), 2);
        due("the latest has one", x.medoid(1), NONE);
        x.row(1, 0, 0, 0);
        due("a row came", x.medoid(0), NONE);
        x.medoids(1, 1, 1);
        x.clear();
        due("all went", x.medoid(0), NONE);
    }

    private static void density() {
        promise = 11;
        NearGroups x = line(0, 1, 2, 5, 8, 9, 10);
        due("a row between two groups", x.density(0, 1, 3, 4), 2);
        dueGroups("a row between two groups", x, 0, 0, 0, 0, 0, 1, 1, 1);
        due("a row in none", x.density(1, 1, 2, 3), 2);
        dueGroups("a row in none", x, 1, 0, 0, 0, NONE, 1, 1, 1);
        due("squares", x.density(0, 0, 8, 3), 2);
        due("squares of the reach", x.density(0, 0, 9, 3), 1);
        due("all are cores", x.density(0, 2, 0, 1), 7);
        due("none is", x.density(0, 2, 2000, 8), 0);
        dueGroups("none is", x, 0, NONE, NONE, NONE, NONE, NONE, NONE, NONE);
        due("all of them", x.density(0, 2, 20000000, 7), 1);
        NearGroups late = line(11, 0, 1, 2, 8, 9, 10);
        due("numbered by least cores", late.density(0, 1, 1, 3), 2);
        dueGroups("numbered by least cores", late, 0, 1, 0, 0, 0, 1, 1, 1);
        NearGroups chain = line(0, 4, 2, 8, 6, 20);
        due("through others", chain.density(0, 1, 2, 1), 2);
        dueGroups("through others", chain, 0, 0, 0, 0, 0, 0, 1);
        for (int e : new int[] {-1, 20000001, LEAST, MOST}) due("e = " + e, x.density(0, 0, e, 1), OUTSIDE);
        for (int m : new int[] {0, 31, -1, LEAST, MOST}) due("m = " + m, x.density(0, 0, 1, m), OUTSIDE);
        for (int kind : new int[] {-1, 3, LEAST, MOST}) due("kind = " + kind, x.density(0, kind, 1, 1), OUTSIDE);
        for (int slot : new int[] {-1, 2, LEAST, MOST}) due("slot = " + slot, x.density(slot, 0, 1, 1), OUTSIDE);
        due("m = 30", x.density(0, 0, 20000000, 30), 0);
        due("no rows", new NearGroups().density(0, 0, 1, 1), STATE);
        due("no rows, m = 31", new NearGroups().density(0, 0, 1, 31), OUTSIDE);
    }

    private static void tree() {
        promise = 12;
        NearGroups x = line(0, 2, 5, 9);
        for (int way = 0; way < 4; way++) {
            for (int kind = 0; kind < 3; kind++) due("tree(" + way + ", " + kind + ")", x.tree(way, kind), 3);
        }
        for (int way : new int[] {-1, 4, LEAST, MOST}) due("tree(" + way + ", 0)", x.tree(way, 0), OUTSIDE);
        for (int kind : new int[] {-1, 3, LEAST, MOST}) {
            due("tree(0, " + kind + ")", x.tree(0, kind), OUTSIDE);
            due("tree(3, " + kind + ")", x.tree(3, kind), OUTSIDE);
        }
        due("count(4)", x.count(4), 3);
        due("one row", line(5).tree(0, 0), 0);
        due("no rows", new NearGroups().tree(0, 0), STATE);
        due("no rows, no such way", new NearGroups().tree(4, 0), OUTSIDE);
    }

    private static void join() {
        promise = 13;
        NearGroups x = line(0, 2, 5, 9);
        due("no tree", x.join(0, 0), STATE);
        due("no tree, no such what", x.join(0, 5), OUTSIDE);
        due("no tree, no such join", x.join(-1, 0), STATE);
        x.tree(0, 1);
        dueJoin(x, 0, 0, 1, 2, 2, 1);
        dueJoin(x, 1, 0, 2, 3, 3, 1);
        dueJoin(x, 2, 0, 3, 4, 4, 1);
        x.tree(1, 1);
        dueJoin(x, 0, 0, 1, 2, 2, 1);
        dueJoin(x, 1, 2, 3, 2, 4, 1);
        dueJoin(x, 2, 0, 2, 4, 9, 1);
        x.tree(2, 1);
        dueJoin(x, 0, 0, 1, 2, 2, 1);
        dueJoin(x, 1, 0, 2, 3, 4, 1);
        dueJoin(x, 2, 0, 3, 4, 20, 3);
        for (int kind = 0; kind < 3; kind++) {
            x.tree(3, kind);
            dueJoin(x, 0, 0, 1, 2, 2, 1);
            dueJoin(x, 1, 2, 3, 2, 8, 1);
            dueJoin(x, 2, 0, 2, 4, 36, 1);
        }
        x.tree(0, 0);
        dueJoin(x, 2, 0, 3, 4, 16, 1);
        for (int i : new int[] {-1, 3, LEAST, MOST}) due("join(" + i + ", 0)", x.join(i, 0), NONE);
        for (int what : new int[] {-1, 5, LEAST, MOST}) due("join(0, " + what + ")", x.join(0, what), OUTSIDE);
        due("no such join, no such what", x.join(9, 5), OUTSIDE);
        NearGroups tie = line(10, 1, 11, 0, 9);
        tie.tree(0, 0);
        dueJoin(tie, 0, 0, 2, 2, 1, 1);
        dueJoin(tie, 1, 0, 4, 3, 1, 1);
        dueJoin(tie, 2, 1, 3, 2, 1, 1);
        NearGroups alike = line(4, 4);
        alike.tree(3, 0);
        dueJoin(alike, 0, 0, 1, 2, 0, 1);
        NearGroups one = line(4);
        one.tree(0, 0);
        due("no joins", one.join(0, 0), NONE);
    }

    private static void cut() {
        promise = 14;
        NearGroups x = line(0, 2, 5, 9);
        due("no tree", x.cut(0, 1), STATE);
        due("no tree, g = 31", x.cut(0, 31), OUTSIDE);
        x.tree(1, 1);
        due("cut(0, 1)", x.cut(0, 1), 1);
        dueGroups("cut(0, 1)", x, 0, 0, 0, 0, 0);
        due("cut(0, 2)", x.cut(0, 2), 1);
        dueGroups("cut(0, 2)", x, 0, 0, 0, 1, 1);
        due("cut(1, 3)", x.cut(1, 3), 1);
        dueGroups("cut(1, 3)", x, 1, 0, 0, 1, 2);
        due("cut(1, 4)", x.cut(1, 4), 1);
        dueGroups("cut(1, 4)", x, 1, 0, 1, 2, 3);
        dueGroups("the other slot", x, 0, 0, 0, 1, 1);
        due("more than rows", x.cut(0, 5), STATE);
        due("30", x.cut(0, 30), STATE);
        for (int g : new int[] {0, 31, -1, LEAST, MOST}) due("cut(0, " + g + ")", x.cut(0, g), OUTSIDE);
        for (int slot : new int[] {-1, 2, LEAST, MOST}) due("cut(" + slot + ", 1)", x.cut(slot, 1), OUTSIDE);
        NearGroups mixed = line(10, 1, 11, 0, 9);
        mixed.tree(0, 0);
        mixed.cut(0, 2);
        dueGroups("numbered by their least rows", mixed, 0, 0, 1, 0, 1, 0);
        mixed.cut(0, 3);
        dueGroups("behind two joins", mixed, 0, 0, 1, 0, 2, 0);
        NearGroups one = line(4);
        one.tree(0, 0);
        due("one row", one.cut(0, 1), 1);
        due("count(2)", one.count(2), 1);
        cutIntoThirty();
    }

    private static void cutIntoThirty() {
        NearGroups x = new NearGroups();
        for (int r = 0; r < 30; r++) x.row(r * r, -r, 0, 0);
        due("29 joins", x.tree(2, 0), 29);
        due("cut(0, 30)", x.cut(0, 30), 1);
        due("cut(1, 30)", x.cut(1, 30), 1);
        due("count(3)", x.count(3), 30);
        due("of(1, 29)", x.of(1, 29), 29);
        due("size(1, 29)", x.size(1, 29), 1);
        due("size(1, 30)", x.size(1, 30), UNKNOWN);
        due("mean(1, 29, 0, 0)", x.mean(1, 29, 0, 0), 841);
        due("mean(1, 30, 0, 0)", x.mean(1, 30, 0, 0), UNKNOWN);
        dueSum(x, 0, 0, 1);
        dueWell(x, 0, 29, 0, 1);
        dueAgree(x, 0, 0, 0, 435);
    }

    private static void of() {
        promise = 15;
        NearGroups x = line(0, 1, 50);
        due("an empty slot", x.of(0, 0), STATE);
        due("an empty slot, no such row", x.of(0, 3), UNKNOWN);
        x.density(0, 1, 1, 2);
        dueGroups("density", x, 0, 0, 0, NONE);
        due("the other slot", x.of(1, 0), STATE);
        for (int i : new int[] {-1, 3, LEAST, MOST}) {
            due("of(0, " + i + ")", x.of(0, i), UNKNOWN);
            due("of(2, " + i + ")", x.of(2, i), UNKNOWN);
        }
        for (int slot : new int[] {-1, 2, LEAST, MOST}) due("of(" + slot + ", 0)", x.of(slot, 0), OUTSIDE);
    }

    private static void size() {
        promise = 16;
        NearGroups x = line(0, 1, 50);
        due("an empty slot", x.size(0, 0), STATE);
        due("an empty slot, no such group", x.size(0, -1), STATE);
        x.density(0, 1, 1, 2);
        due("size(0, 0)", x.size(0, 0), 2);
        for (int g : new int[] {-1, 1, LEAST, MOST}) due("size(0, " + g + ")", x.size(0, g), UNKNOWN);
        for (int slot : new int[] {-1, 2, LEAST, MOST}) {
            due("size(" + slot + ", 0)", x.size(slot, 0), OUTSIDE);
            due("size(" + slot + ", 9)", x.size(slot, 9), OUTSIDE);
        }
        x.medoids(0, 0, 2);
        due("size(0, 0)", x.size(0, 0), 2);
        due("size(0, 1)", x.size(0, 1), 1);
        due("size(0, 2)", x.size(0, 2), UNKNOWN);
        x.means(0, 1);
        due("size(0, 0)", x.size(0, 0), 3);
        due("size(0, 1)", x.size(0, 1), UNKNOWN);
        NearGroups alike = line(5, 5, 9);
        alike.medoids(1, 0, 3);
        int[] sizes = {2, 0, 1};
        for (int g = 0; g < 3; g++) due("alike rows: size(1, " + g + ")", alike.size(1, g), sizes[g]);
    }

    private static void dueMean(NearGroups x, int g, int column, int above, int below) {
        due("mean(0, " + g + ", " + column + ", 0)", x.mean(0, g, column, 0), above);
        due("mean(0, " + g + ", " + column + ", 1)", x.mean(0, g, column, 1), below);
    }

    private static void mean() {
        promise = 17;
        NearGroups x = new NearGroups();
        x.columns(3);
        x.row(-3, 2, -1, 0);
        x.row(-4, 4, 1, 0);
        due("an empty slot", x.mean(0, 0, 0, 0), STATE);
        due("an empty slot, nothing fits", x.mean(0, 9, 9, 9), STATE);
        x.means(0, 1);
        dueMean(x, 0, 0, -7, 2);
        dueMean(x, 0, 1, 3, 1);
        dueMean(x, 0, 2, 0, 1);
        for (int column : new int[] {-1, 3, LEAST, MOST}) due("column " + column, x.mean(0, 0, column, 0), OUTSIDE);
        for (int side : new int[] {-1, 2, LEAST, MOST}) due("side " + side, x.mean(0, 0, 0, side), OUTSIDE);
        for (int g : new int[] {-1, 1, LEAST, MOST}) {
            due("group " + g, x.mean(0, g, 0, 0), UNKNOWN);
            due("group " + g + ", column 9", x.mean(0, g, 9, 9), UNKNOWN);
        }
        for (int slot : new int[] {-1, 2, LEAST, MOST}) due("slot " + slot, x.mean(slot, 9, 9, 9), OUTSIDE);
        NearGroups alike = line(5, 5, 9);
        alike.medoids(0, 0, 3);
        dueMean(alike, 0, 0, 5, 1);
        dueMean(alike, 1, 0, 0, 1);
        dueMean(alike, 2, 0, 9, 1);
        NearGroups some = line(0, 1, 50);
        some.density(0, 1, 1, 2);
        dueMean(some, 0, 0, 1, 2);
    }

    private static void dueSum(NearGroups x, int slot, long above, long below) {
        due("sum(" + slot + ", 0)", x.sum(slot, 0), above);
        due("sum(" + slot + ", 1)", x.sum(slot, 1), below);
    }

    private static void sum() {
        promise = 18;
        NearGroups x = line(0, 1, 10, 12, 13);
        due("an empty slot", x.sum(0, 0), STATE);
        due("an empty slot, no such side", x.sum(0, 2), OUTSIDE);
        x.means(0, 2);
        dueSum(x, 0, 31, 6);
        for (int side : new int[] {-1, 2, LEAST, MOST}) due("side " + side, x.sum(0, side), OUTSIDE);
        for (int slot : new int[] {-1, 2, LEAST, MOST}) due("slot " + slot, x.sum(slot, 0), OUTSIDE);
        NearGroups some = line(0, 1, 50);
        some.density(0, 1, 1, 2);
        dueSum(some, 0, 1, 2);
        some.density(1, 1, 1, 3);
        dueSum(some, 1, 0, 1);
        NearGroups alike = line(5, 5, 9);
        alike.medoids(1, 0, 3);
        dueSum(alike, 1, 0, 1);
        NearGroups far = new NearGroups();
        far.columns(4);
        for (int r = 0; r < 30; r++) far.row(r % 2 * 2000 - 1000, r % 2 * 2000 - 1000, r % 2 * 2000 - 1000, r % 2 * 2000 - 1000);
        far.means(0, 1);
        dueSum(far, 0, 120000000, 1);
    }

    private static void dueWell(NearGroups x, int kind, int i, long above, long below) {
        due("well(0, " + kind + ", " + i + ", 0)", x.well(0, kind, i, 0), above);
        due("well(0, " + kind + ", " + i + ", 1)", x.well(0, kind, i, 1), below);
    }

    private static void well() {
        promise = 19;
        NearGroups x = line(0, 1, 10, 12);
        due("an empty slot", x.well(0, 0, 0, 0), STATE);
        x.means(0, 2);
        dueWell(x, 1, 0, 10, 11);
        dueWell(x, 1, 2, 15, 19);
        dueWell(x, 0, 0, 121, 122);
        NearGroups chain = line(0, 2, 4, 6, 8, 10, 13);
        chain.tree(0, 1);
        chain.cut(0, 2);
        dueWell(chain, 1, 5, -1, 2);
        dueWell(chain, 1, 6, 0, 1);
        chain.cut(0, 1);
        dueWell(chain, 1, 5, 0, 1);
        NearGroups alike = line(7, 7, 7, 7);
        alike.means(0, 2);
        dueWell(alike, 0, 1, 0, 1);
        NearGroups empty = line(5, 5, 9);
        empty.medoids(0, 0, 3);
        dueWell(empty, 1, 0, 1, 1);
        NearGroups some = line(0, 1, 50, 51, 20);
        some.density(0, 1, 1, 2);
        dueWell(some, 1, 0, 99, 101);
        due("a row in none", some.well(0, 1, 4, 0), STATE);
        due("a row in none, no such side", some.well(0, 1, 4, 2), OUTSIDE);
        for (int i : new int[] {-1, 5, LEAST, MOST}) due("row " + i, some.well(9, 9, i, 9), UNKNOWN);
        for (int slot : new int[] {-1, 2, LEAST, MOST}) due("slot " + slot, some.well(slot, 0, 0, 0), OUTSIDE);
        for (int kind : new int[] {-1, 3, LEAST, MOST}) due("kind " + kind, some.well(1, kind, 0, 0), OUTSIDE);
        for (int side : new int[] {-1, 2, LEAST, MOST}) due("side " + side, some.well(0, 0, 0, side), OUTSIDE);
    }

    private static void dueAgree(NearGroups x, int... counts) {
        for (int what = 0; what < 4; what++) due("agree(" + what + ")", x.agree(what), counts[what]);
    }

    private static void agree() {
        promise = 20;
        NearGroups x = line(0, 1, 50, 51, 20);
        due("both empty", x.agree(0), STATE);
        due("both empty, no such what", x.agree(4), OUTSIDE);
        x.density(0, 1, 1, 2);
        due("one empty", x.agree(0), STATE);
        x.means(1, 1);
        dueAgree(x, 2, 0, 4, 0);
        x.tree(0, 0);
        x.cut(1, 5);
        dueAgree(x, 0, 2, 0, 4);
        x.cut(0, 1);
        x.density(1, 1, 1, 2);
        dueAgree(x, 2, 4, 0, 0);
        x.cut(1, 3);
        dueAgree(x, 2, 8, 0, 0);
        x.density(0, 1, 1, 30);
        dueAgree(x, 0, 0, 0, 0);
        for (int what : new int[] {-1, 4, LEAST, MOST}) due("agree(" + what + ")", x.agree(what), OUTSIDE);
        NearGroups other = line(1, 2);
        other.means(1, 1);
        due("slot 0 empty", other.agree(0), STATE);
    }
}
