/** The boundary cases of promises 1 to 20, each answer that a promise names under its own words. */
public final class PromiseEdgesTest extends Edges {
    public static void main(String[] args) {
        newObject();
        columns();
        row();
        clear();
        count();
        distance();
        near();
        means();
        medoids();
        medoid();
        density();
        tree();
        join();
        cut();
        of();
        size();
        mean();
        sum();
        well();
        agree();
        end();
    }

    /** Thirty rows, both slots, the best rows and a tree. */
    private static NearGroups full() {
        NearGroups x = new NearGroups();
        for (int r = 0; r < ROWS; r++) x.row(r * r, -r, 0, 0);
        x.tree(0, 0);
        x.cut(0, 30);
        x.medoids(1, 0, 3);
        return x;
    }

    private static void newObject() {
        says("Promise 1: No ROWS");
        NearGroups x = new NearGroups();
        due("count(0)", x.count(0), 0);
        due("distance(0, 0, 0)", x.distance(0, 0, 0), UNKNOWN);
        due("near(0, 0, 0)", x.near(0, 0, 0), UNKNOWN);
        due("row", x.row(0, 0, 0, 0), 0);

        says("Promise 1: two COLUMNS");
        x = new NearGroups();
        due("count(1)", x.count(1), 2);
        due("a third number is not looked at", x.row(0, 0, 1001, 1001), 0);
        due("a second one is", x.row(0, 1001, 0, 0), OUTSIDE);

        says("Promise 1: no GROUPINGS");
        x = new NearGroups();
        due("count(2)", x.count(2), NONE);
        due("count(3)", x.count(3), NONE);
        due("medoid(0)", x.medoid(0), NONE);
        x.row(0, 0, 0, 0);
        dueEmpty(x, 0);
        dueEmpty(x, 1);

        says("Promise 1: no TREE");
        dueNoTree(new NearGroups());
        dueNoTree(x);

        says("Promise 1: a new object, beside one that is full");
        NearGroups other = full();
        x = new NearGroups();
        due("count(0)", x.count(0), 0);
        due("row", x.row(5, 5, 0, 0), 0);
        due("clear()", x.clear(), 1);
        due("the other's count(0)", other.count(0), 30);
        due("the other's count(4)", other.count(4), 29);
    }

    private static void columns() {
        says("Promise 2: So many COLUMNS: 1");
        NearGroups x = new NearGroups();
        for (int n = 4; n >= 1; n--) {
            due("columns(" + n + ")", x.columns(n), 1);
            due("count(1)", x.count(1), n);
        }

        says("Promise 2: OUTSIDE");
        for (int n : outside(1, 4)) due("columns(" + n + ")", x.columns(n), OUTSIDE);
        due("columns(-1)", x.columns(-1), OUTSIDE);
        due("count(1)", x.count(1), 1);

        says("Promise 2: STATE: there are ROWS");
        x = line(5);
        for (int n = 1; n <= 4; n++) due("columns(" + n + ")", x.columns(n), STATE);
        due("count(1)", x.count(1), 1);
        due("a second number is not looked at", x.row(5, 1001, 0, 0), 1);
        due("of a full object", full().columns(2), STATE);
        x.clear();
        due("behind clear()", x.columns(4), 1);

        says("Promise 2: OUTSIDE before STATE");
        for (int n : outside(1, 4)) due("columns(" + n + ")", line(5).columns(n), OUTSIDE);
    }

    private static void row() {
        says("Promise 3: of more numbers than COLUMNS the others are not looked at");
        for (int columns = 1; columns <= 4; columns++) {
            NearGroups x = new NearGroups();
            x.columns(columns);
            x.row(1, 1, 1, 1);
            for (int bad : outside(-1000, 1000)) {
                due(columns + " columns", x.row(1, columns > 1 ? 1 : bad, columns > 2 ? 1 : bad, columns > 3 ? 1 : bad), x.count(0) - 1);
                due("they are no distance", x.distance(1, 0, x.count(0) - 1), 0);
            }
            x.means(0, 1);
            dueMean(x, 0, 0, columns - 1, 1, 1);
            due("they have no mean", x.mean(0, 0, columns, 0), OUTSIDE);
        }

        says("Promise 3: its number");
        NearGroups x = new NearGroups();
        for (int r = 0; r < ROWS; r++) due("row", x.row(7, 7, 0, 0), r);

        says("Promise 3: OUTSIDE");
        x = new NearGroups();
        x.columns(4);
        for (int bad : outside(-1000, 1000)) {
            due("in column 0", x.row(bad, 0, 0, 0), OUTSIDE);
            due("in column 1", x.row(0, bad, 0, 0), OUTSIDE);
            due("in column 2", x.row(0, 0, bad, 0), OUTSIDE);
            due("in column 3", x.row(0, 0, 0, bad), OUTSIDE);
        }
        due("count(0)", x.count(0), 0);
        due("the greatest and the least", x.row(1000, -1000, 1000, -1000), 0);

        says("Promise 3: ROOM");
        x = full();
        due("row", x.row(0, 0, 0, 0), ROOM);
        due("count(0)", x.count(0), 30);
        due("count(2)", x.count(2), 30);
        due("count(4)", x.count(4), 29);
        due("count(3)", x.count(3), 3);
        dueMedoids(x, 8, 19, 26);

        says("Promise 3: OUTSIDE before ROOM");
        for (int bad : outside(-1000, 1000)) due("row", full().row(0, bad, 0, 0), OUTSIDE);
        due("what is not looked at", full().row(0, 0, 1001, 1001), ROOM);

        says("Promise 3: a refused ROW has not come");
        x = line(0, 1, 9);
        x.means(0, 2);
        x.medoids(1, 1, 2);
        x.tree(0, 0);
        due("row", x.row(1001, 0, 0, 0), OUTSIDE);
        dueGroups(x, 0, 0, 0, 1);
        dueGroups(x, 1, 0, 0, 1);
        dueMedoids(x, 0, 2);
        due("count(4)", x.count(4), 2);
    }

    private static void clear() {
        says("Promise 4: All ROWS go");
        NearGroups x = line(0, 1, 9);
        x.clear();
        due("count(0)", x.count(0), 0);
        for (int i = 0; i < 3; i++) due("distance(0, " + i + ", 0)", x.distance(0, i, 0), UNKNOWN);
        due("row", x.row(4, 0, 0, 0), 0);
        due("row", x.row(6, 0, 0, 0), 1);
        due("distance(1, 0, 1)", x.distance(1, 0, 1), 2);
        due("distance(1, 0, 2)", x.distance(1, 0, 2), UNKNOWN);
        due("the columns stay", x.count(1), 1);

        says("Promise 4: how many there were");
        due("none", new NearGroups().clear(), 0);
        due("one", line(5).clear(), 1);
        due("thirty", full().clear(), 30);
        due("behind clear()", x.clear(), 2);
        due("twice", x.clear(), 0);
    }

    private static void count() {
        says("Promise 5: How many ROWS (what = 0)");
        due("none", new NearGroups().count(0), 0);
        due("one", line(5).count(0), 1);
        due("thirty", full().count(0), 30);

        says("Promise 5: COLUMNS (1)");
        for (int columns = 1; columns <= 4; columns++) due("columns", table(columns, new int[4]).count(1), columns);

        says("Promise 5: GROUPS in SLOT 0, 1 (2, 3; NONE: it is empty)");
        NearGroups x = line(0, 5, 9);
        due("count(2)", x.count(2), NONE);
        due("count(3)", x.count(3), NONE);
        x.density(0, 1, 1, 2);
        due("a grouping without groups", x.count(2), 0);
        due("count(3)", x.count(3), NONE);
        x.means(1, 3);
        due("count(2)", x.count(2), 0);
        due("count(3)", x.count(3), 3);
        due("as many as there can be", full().count(2), 30);

        says("Promise 5: joins of THE TREE (4; NONE: there is none)");
        due("no tree", line(5, 6).count(4), NONE);
        x = line(5);
        x.tree(0, 0);
        due("a tree without joins", x.count(4), 0);
        due("as many as there can be", full().count(4), 29);

        says("Promise 5: OUTSIDE");
        for (int what : outside(0, 4)) {
            due("count(" + what + ")", new NearGroups().count(what), OUTSIDE);
            due("count(" + what + ")", full().count(what), OUTSIDE);
        }
    }

    private static void distance() {
        says("Promise 6: The DISTANCE of two ROWS");
        NearGroups x = full();
        due("first and last", x.distance(0, 0, 29), 841 * 841 + 29 * 29);
        due("last and first", x.distance(1, 29, 0), 841 + 29);
        due("a row and itself", x.distance(2, 29, 29), 0);

        says("Promise 6: UNKNOWN");
        for (int bad : outside(0, 29)) {
            due("distance(0, " + bad + ", 0)", x.distance(0, bad, 0), UNKNOWN);
            due("distance(0, 0, " + bad + ")", x.distance(0, 0, bad), UNKNOWN);
            due("distance(0, " + bad + ", " + bad + ")", x.distance(0, bad, bad), UNKNOWN);
        }
        due("no rows", new NearGroups().distance(0, 0, 0), UNKNOWN);
        due("one row", line(5).distance(0, 0, 1), UNKNOWN);

        says("Promise 6: OUTSIDE: the KIND");
        for (int kind : outside(0, 2)) due("distance(" + kind + ", 0, 29)", x.distance(kind, 0, 29), OUTSIDE);

        says("Promise 6: UNKNOWN before OUTSIDE");
        for (int kind : outside(0, 2)) {
            due("distance(" + kind + ", 30, 0)", x.distance(kind, 30, 0), UNKNOWN);
            due("distance(" + kind + ", 0, 30)", x.distance(kind, 0, 30), UNKNOWN);
            due("distance(" + kind + ", 0, 0)", new NearGroups().distance(kind, 0, 0), UNKNOWN);
        }
    }

    private static void near() {
        says("Promise 7: the k-th nearest (from 0) to a ROW, itself not counted");
        NearGroups x = full();
        due("near(0, 0, 0)", x.near(0, 0, 0), 1);
        due("near(0, 0, 28)", x.near(0, 0, 28), 29);
        due("near(0, 29, 0)", x.near(0, 29, 0), 28);
        due("near(0, 29, 28)", x.near(0, 29, 28), 0);
        due("an alike row is another one", line(3, 3).near(0, 1, 0), 0);
        x = table(2, new int[] {0, 0}, new int[] {3, 3}, new int[] {0, 4}, new int[] {5, 0});
        int[][] orders = {{2, 1, 3}, {2, 3, 1}, {1, 2, 3}};
        for (int kind = 0; kind < 3; kind++) {
            for (int k = 0; k < 3; k++) due("near(" + kind + ", 0, " + k + ")", x.near(kind, 0, k), orders[kind][k]);
        }

        says("Promise 7: of equals the least first");
        x = line(5, 6, 4, 6, 5);
        int[] order = {4, 1, 2, 3};
        for (int k = 0; k < 4; k++) due("near(1, 0, " + k + ")", x.near(1, 0, k), order[k]);
        x = alike(30);
        for (int k = 0; k < 29; k++) due("near(0, 10, " + k + ")", x.near(0, 10, k), k < 10 ? k : k + 1);

        says("Promise 7: NONE");
        for (int k : outside(0, 28)) due("near(0, 10, " + k + ")", x.near(0, 10, k), NONE);
        due("one row", line(5).near(0, 0, 0), NONE);
        due("two rows", line(5, 6).near(0, 0, 1), NONE);

        says("Promise 7: UNKNOWN");
        for (int bad : outside(0, 29)) due("near(0, " + bad + ", 0)", x.near(0, bad, 0), UNKNOWN);
        due("no rows", new NearGroups().near(0, 0, 0), UNKNOWN);

        says("Promise 7: OUTSIDE: the KIND");
        for (int kind : outside(0, 2)) {
            due("near(" + kind + ", 0, 0)", x.near(kind, 0, 0), OUTSIDE);
            due("before NONE", x.near(kind, 0, 29), OUTSIDE);
        }

        says("Promise 7: UNKNOWN before OUTSIDE");
        for (int kind : outside(0, 2)) due("near(" + kind + ", 30, 0)", x.near(kind, 30, 0), UNKNOWN);
    }

    private static void means() {
        says("Promise 8: Into a SLOT a GROUPING by MEANS: how many ROUNDS");
        NearGroups x = line(0, 100, 51, 40, 50, 50, 50);
        x.medoids(1, 0, 3);
        due("means(1, 2)", x.means(1, 2), 3);
        dueGroups(x, 1, 0, 1, 0, 0, 0, 0, 0);
        due("the other slot", x.count(2), NONE);
        due("means(0, 1)", x.means(0, 1), 2);
        dueSizes(x, 0, 7);
        dueSizes(x, 1, 6, 1);

        says("Promise 8: OUTSIDE: k is not 1 to 6");
        x = full();
        for (int k : outside(1, 6)) due("means(0, " + k + ")", x.means(0, k), OUTSIDE);
        due("means(0, -1)", x.means(0, -1), OUTSIDE);
        due("count(2)", x.count(2), 30);
        due("six", x.means(0, 6) > 1 ? 1 : 0, 1);
        due("count(2)", x.count(2), 6);
        due("one", x.means(0, 1), 2);

        says("Promise 8: STATE: fewer than k ROWS");
        for (int k = 1; k <= 6; k++) {
            x = alike(k - 1);
            due("one row fewer than " + k, x.means(0, k), STATE);
            due("count(2)", x.count(2), NONE);
            x.row(0, 0, 0, 0);
            due("as many as " + k, x.means(0, k), 2);
            due("count(2)", x.count(2), k);
        }

        says("Promise 8: OUTSIDE before STATE");
        for (int k : outside(1, 6)) due("means(0, " + k + ")", new NearGroups().means(0, k), OUTSIDE);
        for (int slot : outside(0, 1)) due("means(" + slot + ", 6)", line(1, 2).means(slot, 6), OUTSIDE);
    }

    private static void medoids() {
        says("Promise 9: Into a SLOT a GROUPING by the best k ROWS: that sum");
        NearGroups x = line(0, 2, 3, 10, 12);
        x.means(0, 1);
        due("medoids(1, 1, 2)", x.medoids(1, 1, 2), 5);
        dueGroups(x, 1, 0, 0, 0, 1, 1);
        dueSizes(x, 0, 5);
        due("medoids(0, 0, 1)", x.medoids(0, 0, 1), 9 + 1 + 49 + 81);
        dueSizes(x, 0, 5);
        dueSizes(x, 1, 3, 2);

        says("Promise 9: OUTSIDE: k is not 1 to 3");
        for (int k : outside(1, 3)) due("medoids(0, 0, " + k + ")", x.medoids(0, 0, k), OUTSIDE);
        due("medoids(0, 0, -1)", x.medoids(0, 0, -1), OUTSIDE);
        dueMedoids(x, 2);
        due("three of five", x.medoids(0, 1, 3), 3);

        says("Promise 9: STATE: fewer than k ROWS");
        for (int k = 1; k <= 3; k++) {
            x = alike(k - 1);
            due("one row fewer than " + k, x.medoids(1, 2, k), STATE);
            due("count(3)", x.count(3), NONE);
            due("medoid(0)", x.medoid(0), NONE);
            x.row(0, 0, 0, 0);
            due("as many as " + k, x.medoids(1, 2, k), 0);
            due("medoid(" + (k - 1) + ")", x.medoid(k - 1), k - 1);
        }

        says("Promise 9: OUTSIDE, the KIND or the SLOT, before STATE");
        for (int k : outside(1, 3)) due("medoids(0, 0, " + k + ")", new NearGroups().medoids(0, 0, k), OUTSIDE);
        for (int kind : outside(0, 2)) {
            due("medoids(0, " + kind + ", 1)", line(1).medoids(0, kind, 1), OUTSIDE);
            due("medoids(0, " + kind + ", 2)", line(1).medoids(0, kind, 2), OUTSIDE);
        }
        for (int slot : outside(0, 1)) {
            due("medoids(" + slot + ", 0, 1)", line(1).medoids(slot, 0, 1), OUTSIDE);
            due("medoids(" + slot + ", 0, 2)", line(1).medoids(slot, 0, 2), OUTSIDE);
        }
    }

    private static void medoid() {
        says("Promise 10: The i-th of those ROWS at the latest medoids()");
        NearGroups x = line(0, 2, 3, 10, 12);
        x.medoids(0, 1, 3);
        dueMedoids(x, 0, 1, 3);
        x.medoids(1, 1, 2);
        dueMedoids(x, 1, 3);
        x.medoids(1, 0, 1);
        dueMedoids(x, 2);
        x.means(1, 2);
        x.tree(0, 0);
        x.cut(0, 1);
        x.density(0, 0, 1, 1);
        dueMedoids(x, 2);

        says("Promise 10: that was not refused");
        x.medoids(0, 1, 2);
        due("no such k", x.medoids(0, 1, 4), OUTSIDE);
        due("no such kind", x.medoids(0, 3, 1), OUTSIDE);
        due("no such slot", x.medoids(2, 1, 1), OUTSIDE);
        dueMedoids(x, 1, 3);
        NearGroups two = line(5, 6);
        two.medoids(0, 1, 2);
        due("fewer rows", two.medoids(1, 1, 3), STATE);
        dueMedoids(two, 0, 1);

        says("Promise 10: NONE: not so many");
        for (int k = 1; k <= 3; k++) {
            x.medoids(0, 1, k);
            due("the last of " + k, x.medoid(k - 1) >= 0 ? 1 : 0, 1);
            for (int i : outside(0, k - 1)) due("medoid(" + i + ") of " + k, x.medoid(i), NONE);
        }

        says("Promise 10: there was none since a ROW came");
        due("none yet", line(5).medoid(0), NONE);
        two.row(7, 0, 0, 0);
        for (int i = 0; i < 3; i++) due("medoid(" + i + ")", two.medoid(i), NONE);

        says("Promise 10: or all went");
        x.clear();
        for (int i = 0; i < 3; i++) due("medoid(" + i + ")", x.medoid(i), NONE);
        x.row(7, 0, 0, 0);
        due("medoid(0)", x.medoid(0), NONE);
        x.medoids(0, 0, 1);
        dueMedoids(x, 0);
    }

    private static void density() {
        says("Promise 11: Into a SLOT a GROUPING by DENSITY: how many GROUPS");
        NearGroups x = line(0, 1, 9, 10, 50);
        x.means(0, 1);
        due("density(1, 1, 1, 2)", x.density(1, 1, 1, 2), 2);
        dueGroups(x, 1, 0, 0, 1, 1, NONE);
        dueSizes(x, 0, 5);
        due("no group", x.density(0, 1, 1, 30), 0);
        due("count(2)", x.count(2), 0);
        due("as many as rows", x.density(0, 1, 0, 1), 5);
        due("thirty", full().density(1, 0, 0, 1), 30);

        says("Promise 11: OUTSIDE: e is not 0 to 20000000");
        for (int e : outside(0, 20000000)) due("e = " + e, x.density(0, 0, e, 1), OUTSIDE);
        due("count(2)", x.count(2), 5);
        due("e = 0", x.density(0, 0, 0, 1), 5);
        due("e = 20000000", x.density(0, 0, 20000000, 1), 1);

        says("Promise 11: m not 1 to 30");
        for (int m : outside(1, 30)) due("m = " + m, x.density(1, 0, 1, m), OUTSIDE);
        due("m = -1", x.density(1, 0, 1, -1), OUTSIDE);
        due("count(3)", x.count(3), 2);
        due("m = 30", x.density(1, 0, 20000000, 30), 0);
        due("m = 30, thirty rows", full().density(1, 0, 20000000, 30), 1);

        says("Promise 11: STATE: there are no ROWS");
        x = new NearGroups();
        due("density(0, 0, 0, 1)", x.density(0, 0, 0, 1), STATE);
        due("count(2)", x.count(2), NONE);
        x = line(5);
        x.clear();
        due("behind clear()", x.density(0, 0, 0, 1), STATE);
        due("one row", line(5).density(0, 0, 0, 1), 1);

        says("Promise 11: OUTSIDE, the KIND or the SLOT too, before STATE");
        for (int e : outside(0, 20000000)) due("e = " + e, x.density(0, 0, e, 1), OUTSIDE);
        for (int m : outside(1, 30)) due("m = " + m, x.density(0, 0, 0, m), OUTSIDE);
        for (int kind : outside(0, 2)) {
            due("kind = " + kind, x.density(0, kind, 0, 1), OUTSIDE);
            due("kind = " + kind, line(5).density(0, kind, 0, 1), OUTSIDE);
        }
        for (int slot : outside(0, 1)) {
            due("slot = " + slot, x.density(slot, 0, 0, 1), OUTSIDE);
            due("slot = " + slot, line(5).density(slot, 0, 0, 1), OUTSIDE);
        }
    }

    private static void tree() {
        says("Promise 12: THE TREE by a WAY: how many joins");
        for (int way = 0; way < 4; way++) {
            for (int kind = 0; kind < 3; kind++) {
                due("one row", line(5).tree(way, kind), 0);
                due("two rows", line(5, 6).tree(way, kind), 1);
                due("thirty rows", full().tree(way, kind), 29);
            }
        }

        says("Promise 12: OUTSIDE");
        NearGroups x = line(0, 2, 5);
        x.tree(0, 1);
        for (int way : outside(0, 3)) due("tree(" + way + ", 0)", x.tree(way, 0), OUTSIDE);
        for (int kind : outside(0, 2)) {
            for (int way = 0; way < 4; way++) due("tree(" + way + ", " + kind + ")", x.tree(way, kind), OUTSIDE);
        }
        dueJoin(x, 1, 0, 2, 3, 3, 1);

        says("Promise 12: STATE: there are no ROWS");
        x = new NearGroups();
        due("tree(0, 0)", x.tree(0, 0), STATE);
        dueNoTree(x);
        x = full();
        x.clear();
        due("behind clear()", x.tree(3, 2), STATE);
        dueNoTree(x);

        says("Promise 12: OUTSIDE before STATE");
        for (int way : outside(0, 3)) due("tree(" + way + ", 0)", x.tree(way, 0), OUTSIDE);
        for (int kind : outside(0, 2)) due("tree(0, " + kind + ")", x.tree(0, kind), OUTSIDE);

        says("Promise 12: a new TREE leaves the SLOTS");
        x = line(0, 2, 5, 9);
        x.tree(0, 1);
        x.cut(0, 2);
        due("tree(1, 1)", x.tree(1, 1), 3);
        dueGroups(x, 0, 0, 0, 0, 1);
        dueJoin(x, 1, 2, 3, 2, 4, 1);
    }

    private static void join() {
        says("Promise 13: a (what = 0), b (1), how many ROWS are together then (2), what is above (3), below (4)");
        NearGroups x = line(0, 2, 5, 9);
        x.tree(2, 1);
        dueJoin(x, 0, 0, 1, 2, 2, 1);
        dueJoin(x, 2, 0, 3, 4, 20, 3);
        x = farthest();
        x.tree(1, 0);
        dueJoin(x, 28, 0, 1, 30, 16000000, 1);

        says("Promise 13: NONE: there is none such");
        for (int i : outside(0, 28)) {
            for (int what = 0; what <= 4; what++) due("join(" + i + ", " + what + ")", x.join(i, what), NONE);
        }
        x = line(5);
        x.tree(0, 0);
        due("one row", x.join(0, 0), NONE);
        x = line(5, 6);
        x.tree(0, 0);
        due("two rows", x.join(1, 4), NONE);

        says("Promise 13: OUTSIDE: what");
        for (int what : outside(0, 4)) {
            due("join(0, " + what + ")", x.join(0, what), OUTSIDE);
            due("before NONE", x.join(1, what), OUTSIDE);
        }

        says("Promise 13: STATE: there is no TREE");
        x = line(5, 6);
        for (int what = 0; what <= 4; what++) due("join(0, " + what + ")", x.join(0, what), STATE);
        for (int i : outside(0, 28)) due("before NONE", x.join(i, 0), STATE);
        due("no rows", new NearGroups().join(0, 0), STATE);

        says("Promise 13: OUTSIDE before STATE");
        for (int what : outside(0, 4)) due("join(0, " + what + ")", x.join(0, what), OUTSIDE);
    }

    private static void cut() {
        says("Promise 14: Into a SLOT THE TREE's CUT into g: 1");
        NearGroups x = full();
        for (int g = 1; g <= 30; g++) {
            due("cut(1, " + g + ")", x.cut(1, g), 1);
            due("count(3)", x.count(3), g);
        }
        due("count(2)", x.count(2), 30);
        due("cut(0, 1)", x.cut(0, 1), 1);
        dueSizes(x, 0, 30);
        due("THE TREE stays", x.count(4), 29);

        says("Promise 14: OUTSIDE: g is not 1 to 30");
        for (int g : outside(1, 30)) due("cut(0, " + g + ")", x.cut(0, g), OUTSIDE);
        due("cut(0, -1)", x.cut(0, -1), OUTSIDE);
        due("count(2)", x.count(2), 1);

        says("Promise 14: STATE: there is no TREE");
        x = line(1, 2);
        x.means(0, 2);
        due("cut(0, 1)", x.cut(0, 1), STATE);
        due("count(2)", x.count(2), 2);
        due("no rows", new NearGroups().cut(0, 1), STATE);

        says("Promise 14: or fewer than g ROWS");
        x.tree(0, 0);
        due("cut(0, 3)", x.cut(0, 3), STATE);
        due("cut(0, 30)", x.cut(0, 30), STATE);
        due("count(2)", x.count(2), 2);
        due("as many as rows", x.cut(0, 2), 1);

        says("Promise 14: OUTSIDE before STATE");
        x = line(1, 2);
        for (int g : outside(1, 30)) due("cut(0, " + g + ")", x.cut(0, g), OUTSIDE);
        for (int slot : outside(0, 1)) {
            due("no tree", x.cut(slot, 1), OUTSIDE);
            due("no rows", new NearGroups().cut(slot, 1), OUTSIDE);
        }
        x.tree(0, 0);
        for (int slot : outside(0, 1)) {
            due("cut(" + slot + ", 1)", x.cut(slot, 1), OUTSIDE);
            due("fewer rows", x.cut(slot, 3), OUTSIDE);
        }
    }

    private static void of() {
        says("Promise 15: The GROUP of a ROW in a SLOT");
        NearGroups x = full();
        for (int i : new int[] {0, 1, 28, 29}) due("of(0, " + i + ")", x.of(0, i), i);
        due("of(1, 0)", x.of(1, 0), 0);
        due("of(1, 29)", x.of(1, 29), 2);

        says("Promise 15: NONE");
        x = line(0, 1, 50);
        x.density(1, 1, 1, 2);
        dueGroups(x, 1, 0, 0, NONE);
        x.density(1, 1, 1, 3);
        dueGroups(x, 1, NONE, NONE, NONE);

        says("Promise 15: UNKNOWN");
        for (int i : outside(0, 2)) due("of(1, " + i + ")", x.of(1, i), UNKNOWN);
        for (int i : outside(0, 29)) due("of(0, " + i + ")", full().of(0, i), UNKNOWN);

        says("Promise 15: OUTSIDE");
        for (int slot : outside(0, 1)) due("of(" + slot + ", 0)", x.of(slot, 0), OUTSIDE);

        says("Promise 15: STATE");
        due("of(0, 0)", x.of(0, 0), STATE);

        says("Promise 15: UNKNOWN before OUTSIDE and STATE");
        for (int i : outside(0, 2)) due("STATE fits too", x.of(0, i), UNKNOWN);
        for (int slot : outside(0, 1)) due("OUTSIDE fits too", x.of(slot, 3), UNKNOWN);
        due("no rows", new NearGroups().of(0, 0), UNKNOWN);
        due("no rows, no such slot", new NearGroups().of(2, 0), UNKNOWN);

        says("Promise 15: OUTSIDE, though both SLOTS are empty");
        for (int slot : outside(0, 1)) due("of(" + slot + ", 0)", line(5).of(slot, 0), OUTSIDE);
    }

    private static void size() {
        says("Promise 16: How many ROWS a GROUP has");
        NearGroups x = full();
        due("size(0, 0)", x.size(0, 0), 1);
        due("size(0, 29)", x.size(0, 29), 1);
        x.cut(0, 1);
        due("size(0, 0)", x.size(0, 0), 30);
        x = line(5, 5, 9, 50);
        x.medoids(0, 0, 3);
        dueSizes(x, 0, 2, 1, 1);
        x = line(5, 5, 9);
        x.medoids(0, 0, 3);
        dueSizes(x, 0, 2, 0, 1);

        says("Promise 16: OUTSIDE: the SLOT (first here)");
        for (int slot : outside(0, 1)) {
            due("size(" + slot + ", 0)", x.size(slot, 0), OUTSIDE);
            for (int g : outside(0, 2)) due("UNKNOWN fits too", x.size(slot, g), OUTSIDE);
            due("no groupings", line(5).size(slot, 0), OUTSIDE);
            due("no rows", new NearGroups().size(slot, -1), OUTSIDE);
        }

        says("Promise 16: STATE; UNKNOWN");
        due("size(1, 0)", x.size(1, 0), STATE);
        for (int g : outside(0, 2)) due("UNKNOWN fits too", x.size(1, g), STATE);
        due("no rows", new NearGroups().size(0, -1), STATE);

        says("Promise 16: UNKNOWN");
        for (int g : outside(0, 2)) due("size(0, " + g + ")", x.size(0, g), UNKNOWN);
        x.density(0, 1, 1, 3);
        due("a grouping without groups", x.size(0, 0), UNKNOWN);
        due("NONE is no group", x.size(0, NONE), UNKNOWN);
        for (int g : outside(0, 29)) due("size(0, " + g + ")", full().size(0, g), UNKNOWN);
    }

    private static void mean() {
        says("Promise 17: The MEAN of a GROUP in a COLUMN: what is above (side 0), below (1)");
        NearGroups x = table(4, new int[] {1000, -1000, 0, 1}, new int[] {1000, -1000, 0, 2});
        x.means(0, 1);
        dueMean(x, 0, 0, 0, 1000, 1);
        dueMean(x, 0, 0, 1, -1000, 1);
        dueMean(x, 0, 0, 2, 0, 1);
        dueMean(x, 0, 0, 3, 3, 2);
        x.means(0, 2);
        dueMean(x, 0, 1, 3, 2, 1);
        NearGroups full = full();
        dueMean(full, 0, 29, 0, 841, 1);
        dueMean(full, 0, 29, 1, -29, 1);
        full.cut(0, 1);
        dueMean(full, 0, 0, 0, 1711, 6);
        dueMean(full, 0, 0, 1, -29, 2);

        says("Promise 17: OUTSIDE: the SLOT (first here)");
        for (int slot : outside(0, 1)) {
            due("mean(" + slot + ", 0, 0, 0)", x.mean(slot, 0, 0, 0), OUTSIDE);
            due("UNKNOWN fits too", x.mean(slot, 2, 0, 0), OUTSIDE);
            due("STATE fits, if it is a slot", line(5).mean(slot, 0, 0, 0), OUTSIDE);
            due("no rows", new NearGroups().mean(slot, -1, -1, -1), OUTSIDE);
        }

        says("Promise 17: STATE, before UNKNOWN and OUTSIDE: the COLUMN, side");
        due("mean(1, 0, 0, 0)", x.mean(1, 0, 0, 0), STATE);
        due("UNKNOWN fits too", x.mean(1, 2, 0, 0), STATE);
        due("the column too", x.mean(1, 0, 4, 0), STATE);
        due("the side too", x.mean(1, 0, 0, 2), STATE);
        due("all of them", x.mean(1, -1, -1, -1), STATE);
        due("no rows", new NearGroups().mean(0, 0, 0, 0), STATE);

        says("Promise 17: UNKNOWN, before OUTSIDE: the COLUMN, side");
        for (int g : outside(0, 1)) {
            due("mean(0, " + g + ", 0, 0)", x.mean(0, g, 0, 0), UNKNOWN);
            due("the column too", x.mean(0, g, 4, 0), UNKNOWN);
            due("the side too", x.mean(0, g, 0, 2), UNKNOWN);
        }
        NearGroups none = line(0, 5);
        none.density(0, 1, 1, 2);
        due("a grouping without groups", none.mean(0, 0, 0, 0), UNKNOWN);

        says("Promise 17: OUTSIDE: the COLUMN, side");
        for (int columns = 1; columns <= 4; columns++) {
            NearGroups y = table(columns, new int[4]);
            y.means(0, 1);
            for (int column : outside(0, columns - 1)) due("column " + column + " of " + columns, y.mean(0, 0, column, 0), OUTSIDE);
            dueMean(y, 0, 0, columns - 1, 0, 1);
            for (int side : outside(0, 1)) due("side " + side, y.mean(0, 0, columns - 1, side), OUTSIDE);
        }
        NearGroups alike = line(5, 5);
        alike.medoids(0, 0, 2);
        due("a group without rows, no such column", alike.mean(0, 1, 1, 0), OUTSIDE);
        due("a group without rows, no such side", alike.mean(0, 1, 0, 2), OUTSIDE);
    }

    private static void sum() {
        says("Promise 18: The sum of squares of what ROWS are apart from the MEANS of their GROUPS, all together");
        NearGroups x = line(0, 1, 10, 12, 13);
        x.means(1, 2);
        dueSum(x, 1, 31, 6);
        x = farthest();
        x.means(0, 1);
        dueSum(x, 0, 120000000, 1);
        x.means(0, 2);
        dueSum(x, 0, 0, 1);
        x = full();
        dueSum(x, 0, 0, 1);
        // 1/2 + 2/3 + 4/5 + 6/7 + 10/11
        x = new NearGroups();
        int[] sizes = {2, 3, 5, 7, 11};
        for (int g = 0; g < 5; g++) {
            for (int n = 0; n < sizes[g]; n++) x.row(500 * g - 1000, n == 0 ? 1 : 0, 0, 0);
        }
        x.tree(0, 0);
        x.cut(0, 5);
        dueSum(x, 0, 8623, 2310);

        says("Promise 18: (ROWS in none not counted)");
        x = line(0, 1, 50);
        x.density(0, 1, 1, 2);
        dueSum(x, 0, 1, 2);
        x.density(0, 1, 1, 3);
        dueSum(x, 0, 0, 1);

        says("Promise 18: OUTSIDE");
        for (int side : outside(0, 1)) due("sum(0, " + side + ")", x.sum(0, side), OUTSIDE);
        for (int slot : outside(0, 1)) {
            due("sum(" + slot + ", 0)", x.sum(slot, 0), OUTSIDE);
            due("sum(" + slot + ", 1)", x.sum(slot, 1), OUTSIDE);
        }

        says("Promise 18: STATE");
        due("sum(1, 0)", x.sum(1, 0), STATE);
        due("sum(1, 1)", x.sum(1, 1), STATE);
        due("no rows", new NearGroups().sum(0, 0), STATE);

        says("Promise 18: OUTSIDE before STATE");
        for (int side : outside(0, 1)) due("sum(1, " + side + ")", x.sum(1, side), OUTSIDE);
        for (int slot : outside(0, 1)) due("no rows", new NearGroups().sum(slot, 0), OUTSIDE);
    }

    private static void well() {
        says("Promise 19: HOW WELL a ROW lies: above (side 0), below (1)");
        NearGroups x = line(0, 1, 10, 12);
        x.means(1, 2);
        dueWell(x, 1, 1, 0, 10, 11);
        dueWell(x, 1, 2, 3, 19, 23);
        dueWell(x, 1, 0, 0, 121, 122);
        x = farthest();
        x.means(0, 2);
        for (int kind = 0; kind < 3; kind++) dueWell(x, 0, kind, 29, 1, 1);

        says("Promise 19: UNKNOWN");
        for (int i : outside(0, 29)) due("well(0, 0, " + i + ", 0)", x.well(0, 0, i, 0), UNKNOWN);
        due("no rows", new NearGroups().well(0, 0, 0, 0), UNKNOWN);

        says("Promise 19: UNKNOWN before OUTSIDE and STATE");
        due("the slot too", x.well(2, 0, 30, 0), UNKNOWN);
        due("the kind too", x.well(0, 3, 30, 0), UNKNOWN);
        due("the side too", x.well(0, 0, 30, 2), UNKNOWN);
        due("an empty slot too", x.well(1, 0, 30, 0), UNKNOWN);
        due("all of them", new NearGroups().well(-1, -1, -1, -1), UNKNOWN);

        says("Promise 19: OUTSIDE");
        for (int slot : outside(0, 1)) due("slot " + slot, x.well(slot, 0, 0, 0), OUTSIDE);
        for (int kind : outside(0, 2)) due("kind " + kind, x.well(0, kind, 0, 0), OUTSIDE);
        for (int side : outside(0, 1)) due("side " + side, x.well(0, 0, 0, side), OUTSIDE);

        says("Promise 19: STATE: also a ROW that is in no GROUP");
        x = line(0, 1, 50);
        x.density(0, 1, 1, 2);
        for (int side = 0; side < 2; side++) {
            due("an empty slot", x.well(1, 0, 0, side), STATE);
            due("a row in none", x.well(0, 0, 2, side), STATE);
            due("a row in a group", x.well(0, 0, 1, side), side);
        }

        says("Promise 19: OUTSIDE before STATE");
        for (int kind : outside(0, 2)) {
            due("an empty slot, kind " + kind, x.well(1, kind, 0, 0), OUTSIDE);
            due("a row in none, kind " + kind, x.well(0, kind, 2, 0), OUTSIDE);
        }
        for (int side : outside(0, 1)) {
            due("an empty slot, side " + side, x.well(1, 0, 0, side), OUTSIDE);
            due("a row in none, side " + side, x.well(0, 0, 2, side), OUTSIDE);
        }
        for (int slot : outside(0, 1)) due("no groupings, slot " + slot, line(5).well(slot, 0, 0, 0), OUTSIDE);
    }

    private static void agree() {
        says("Promise 20: pairs in both (what = 0), in SLOT 0 alone (1), in SLOT 1 alone (2), in neither (3)");
        NearGroups x = line(0, 1, 10, 11);
        x.tree(0, 1);
        x.cut(0, 2);
        x.cut(1, 3);
        dueAgree(x, 1, 1, 0, 4);
        x.cut(1, 1);
        dueAgree(x, 2, 0, 4, 0);
        x = full();
        x.cut(1, 1);
        dueAgree(x, 0, 0, 435, 0);

        says("Promise 20: OUTSIDE");
        for (int what : outside(0, 3)) due("agree(" + what + ")", x.agree(what), OUTSIDE);

        says("Promise 20: STATE: a SLOT is empty");
        for (int what = 0; what <= 3; what++) {
            due("both, no rows", new NearGroups().agree(what), STATE);
            due("both", line(5, 6).agree(what), STATE);
            for (int slot = 0; slot < 2; slot++) {
                x = line(5, 6);
                x.means(slot, 1);
                due("only slot " + slot + " is not", x.agree(what), STATE);
            }
        }

        says("Promise 20: OUTSIDE before STATE");
        for (int what : outside(0, 3)) {
            due("both are empty", new NearGroups().agree(what), OUTSIDE);
            due("one is empty", x.agree(what), OUTSIDE);
        }
    }
}
