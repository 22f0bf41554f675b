/** The boundary cases that the document's Terms name, each under its own words. */
public final class TermsEdgesTest extends Edges {
    public static void main(String[] args) {
        rowsAndColumns();
        distances();
        fractions();
        slots();
        meansOfGroups();
        firstMeans();
        nearestMeans();
        emptyGroupsTakeRows();
        endOfRounds();
        bestRows();
        groupsOfBestRows();
        cores();
        groupsOfCores();
        rowsBesideCores();
        clusters();
        ways();
        treeIsGone();
        cuts();
        howWell();
        agreement();
        lastCall();
        end();
    }

    private static void rowsAndColumns() {
        says("ROWS (30 at most)");
        NearGroups x = new NearGroups();
        for (int turn = 0; turn < 2; turn++) {
            for (int r = 0; r < ROWS; r++) due("row", x.row(0, 0, 0, 0), r);
            due("the 31st row", x.row(0, 0, 0, 0), ROOM);
            due("clear()", x.clear(), ROWS);
        }

        says("COLUMNS (1 to 4; 2 at first)");
        x = new NearGroups();
        due("count(1)", x.count(1), 2);
        for (int n : outside(1, 4)) due("columns(" + n + ")", x.columns(n), OUTSIDE);
        due("count(1)", x.count(1), 2);
        due("columns(4)", x.columns(4), 1);
        due("columns(1)", x.columns(1), 1);
        x = new NearGroups();
        x.row(0, 0, 100, 100);
        x.row(3, 4, 0, 0);
        due("of two columns: distance(1, 0, 1)", x.distance(1, 0, 1), 7);

        says("each a number from -1000 to 1000");
        for (int columns = 1; columns <= 4; columns++) {
            x = new NearGroups();
            x.columns(columns);
            for (int c = 0; c < columns; c++) {
                for (int number : outside(-1000, 1000)) due(number + " in column " + c, rowWith(x, c, number), OUTSIDE);
                due("-1000 in column " + c, rowWith(x, c, -1000), 2 * c);
                due("1000 in column " + c, rowWith(x, c, 1000), 2 * c + 1);
            }
        }

        says("they are numbered from 0 on, as they come");
        x = line(7, 3, 7);
        due("row", x.row(0, 0, 0, 0), 3);
        x.clear();
        due("row", x.row(9, 0, 0, 0), 0);
        due("row", x.row(9, 0, 0, 0), 1);
    }

    private static int rowWith(NearGroups x, int column, int number) {
        int[] row = new int[4];
        row[column] = number;
        return x.row(row[0], row[1], row[2], row[3]);
    }

    private static void distances() {
        int[] low = {-1000, -1000, -1000, -1000};
        int[] high = {1000, 1000, 1000, 1000};
        says("0 the sum of the squares of what their COLUMNS are apart");
        for (int n = 1; n <= 4; n++) due(n + " columns", table(n, low, high).distance(0, 0, 1), 4000000 * n);
        due("alike rows", table(4, high, high).distance(0, 0, 1), 0);
        due("each column", table(4, new int[] {1, -2, 3, -4}, new int[] {2, 0, 0, 0}).distance(0, 0, 1), 1 + 4 + 9 + 16);

        says("1 the sum of what they are");
        for (int n = 1; n <= 4; n++) due(n + " columns", table(n, low, high).distance(1, 0, 1), 2000 * n);
        due("alike rows", table(4, high, high).distance(1, 0, 1), 0);
        due("each column", table(4, new int[] {1, -2, 3, -4}, new int[] {2, 0, 0, 0}).distance(1, 0, 1), 1 + 2 + 3 + 4);

        says("2 the greatest of that");
        for (int n = 1; n <= 4; n++) due(n + " columns", table(n, low, high).distance(2, 0, 1), 2000);
        due("alike rows", table(4, high, high).distance(2, 0, 1), 0);
        due("in the first column", table(4, new int[] {9, -2, 3, -4}, new int[4]).distance(2, 0, 1), 9);
        due("in the last column", table(4, new int[] {1, -2, 3, -9}, new int[4]).distance(2, 0, 1), 9);
    }

    private static void fractions() {
        says("Fractions are told in least terms, what is below above 0");
        NearGroups x = line(0, 0, 0, 2);
        x.means(0, 1);
        dueMean(x, 0, 0, 0, 1, 2);
        dueSum(x, 0, 3, 1);
        x = line(-1, -2);
        x.means(0, 1);
        dueMean(x, 0, 0, 0, -3, 2);
        dueSum(x, 0, 1, 2);
        x = line(0, 2, 6);
        x.tree(2, 1);
        dueJoin(x, 1, 0, 2, 3, 5, 1);
        x.tree(3, 1);
        dueJoin(x, 1, 0, 2, 3, 50, 3);
        x = line(0, 2, 4, 6, 8, 10, 13);
        x.tree(0, 1);
        x.cut(0, 2);
        dueWell(x, 0, 1, 5, -1, 2);

        says("(0 is 0 / 1)");
        x = line(-5, 5, 0);
        x.means(0, 1);
        dueMean(x, 0, 0, 0, 0, 1);
        dueWell(x, 0, 0, 0, 0, 1);
        x = line(3, 3);
        x.means(0, 1);
        dueSum(x, 0, 0, 1);
        for (int way = 0; way < 4; way++) {
            x.tree(way, 0);
            dueJoin(x, 0, 0, 1, 2, 0, 1);
        }
    }

    private static void slots() {
        says("A GROUPING puts each ROW into a GROUP (numbered from 0 on), or into none");
        NearGroups x = line(0, 9, 1, 10, 50);
        due("density", x.density(0, 1, 1, 2), 2);
        dueGroups(x, 0, 0, 1, 0, 1, NONE);

        says("There are two SLOTS for GROUPINGS, 0 and 1");
        x = line(0, 1, 10);
        x.means(0, 1);
        x.means(1, 2);
        dueGroups(x, 0, 0, 0, 0);
        dueGroups(x, 1, 0, 0, 1);
        x.means(0, 3);
        dueGroups(x, 1, 0, 0, 1);
        for (int slot : outside(0, 1)) dueNoSlot(x, slot);

        says("empty at first");
        for (int slot = 0; slot < 2; slot++) {
            dueEmpty(line(1, 2), slot);
            x = new NearGroups();
            due("count", x.count(2 + slot), NONE);
            due("size", x.size(slot, 0), STATE);
            due("mean", x.mean(slot, 0, 0, 0), STATE);
            due("sum", x.sum(slot, 0), STATE);
            due("agree", x.agree(0), STATE);
        }

        says("and when a ROW comes");
        for (int slot = 0; slot < 2; slot++) {
            x = line(1, 2);
            x.means(0, 1);
            x.means(1, 2);
            due("row", x.row(2, 0, 0, 0), 2);
            dueEmpty(x, slot);
        }

        says("or all go");
        for (int slot = 0; slot < 2; slot++) {
            x = line(1, 2);
            x.means(0, 1);
            x.means(1, 2);
            due("clear()", x.clear(), 2);
            due("count", x.count(2 + slot), NONE);
            due("size", x.size(slot, 0), STATE);
            due("mean", x.mean(slot, 0, 0, 0), STATE);
            due("sum", x.sum(slot, 0), STATE);
            due("agree", x.agree(0), STATE);
            x.row(1, 0, 0, 0);
            dueEmpty(x, slot);
        }
    }

    private static void dueNoSlot(NearGroups x, int slot) {
        due("means", x.means(slot, 1), OUTSIDE);
        due("medoids", x.medoids(slot, 0, 1), OUTSIDE);
        due("density", x.density(slot, 0, 1, 1), OUTSIDE);
        x.tree(0, 0);
        due("cut", x.cut(slot, 1), OUTSIDE);
        due("of", x.of(slot, 0), OUTSIDE);
        due("size", x.size(slot, 0), OUTSIDE);
        due("mean", x.mean(slot, 0, 0, 0), OUTSIDE);
        due("sum", x.sum(slot, 0), OUTSIDE);
        due("well", x.well(slot, 0, 0, 0), OUTSIDE);
    }

    private static void meansOfGroups() {
        says("The MEAN of a GROUP has in each COLUMN the mean of its ROWS");
        NearGroups x = table(4, new int[] {1, -1, 1000, -1000}, new int[] {2, -2, 1000, -1000}, new int[] {4, 3, 1000, -999});
        x.means(1, 1);
        dueMean(x, 1, 0, 0, 7, 3);
        dueMean(x, 1, 0, 1, 0, 1);
        dueMean(x, 1, 0, 2, 1000, 1);
        dueMean(x, 1, 0, 3, -2999, 3);
        x.means(1, 3);
        dueMean(x, 1, 0, 0, 1, 1);
        dueMean(x, 1, 1, 1, 3, 1);
        dueMean(x, 1, 2, 3, -1000, 1);
    }

    private static void firstMeans() {
        says("first ROW 0 is chosen");
        NearGroups x = line(5, 0, 10);
        x.means(0, 2);
        dueGroups(x, 0, 0, 1, 0);

        says("of those not chosen yet, the ROW whose least DISTANCE (KIND 0) to a chosen one is greatest");
        x = table(2, new int[] {0, 0}, new int[] {4, 4}, new int[] {6, 0});
        x.means(0, 3);
        dueGroups(x, 0, 0, 2, 1);
        x = table(2, new int[] {0, 0}, new int[] {5, 0}, new int[] {4, 4});
        x.means(0, 3);
        dueGroups(x, 0, 0, 2, 1);
        x = line(0, 10, 6, 5);
        x.means(0, 4);
        dueGroups(x, 0, 0, 1, 3, 2);

        says("of equals the least ROW, till k are chosen");
        x = line(0, 5, -5);
        x.means(0, 3);
        dueGroups(x, 0, 0, 1, 2);
        x = line(0, 10, 3, 7);
        x.means(0, 4);
        dueGroups(x, 0, 0, 1, 2, 3);

        says("till k are chosen: these are the first MEANS, by turns");
        int[] numbers = {0, 32, 1, 16, 4, 8};
        int[] turns = {0, 1, 5, 2, 4, 3};
        for (int k = 1; k <= 6; k++) {
            x = line(java.util.Arrays.copyOf(numbers, k));
            due("means", x.means(0, k), 2);
            due("count(2)", x.count(2), k);
            for (int g = 0; g < k; g++) due("size(0, " + g + ") of " + k, x.size(0, g), 1);
        }
        dueGroups(x, 0, turns);
    }

    private static void nearestMeans() {
        says("each ROW goes into the GROUP whose MEAN is nearest to it (by the sum of squares, exactly)");
        NearGroups x = table(2, new int[] {0, 0}, new int[] {3, 7}, new int[] {3, 3});
        x.means(0, 2);
        dueGroups(x, 0, 0, 1, 1);
        x = table(2, new int[] {0, 0}, new int[] {8, 3}, new int[] {3, 3});
        x.means(0, 2);
        dueGroups(x, 0, 0, 1, 0);
        // the means 5/3 and -5 of round 2: a rounded 5/3 would be as near to -2 as -5 is
        x = line(1, 6, -5, -2);
        due("means(0, 2)", x.means(0, 2), 3);
        dueGroups(x, 0, 0, 0, 1, 1);
        // row 2 is 10/3 from both means of round 2, -7/3 and 13/3
        x = line(-3, 4, 1, -5, 5, 4);
        due("means(0, 2)", x.means(0, 2), 2);
        dueGroups(x, 0, 0, 1, 0, 0, 1, 1);

        says("nearest to it (by the sum of squares, exactly), of equals the least");
        x = line(0, 4, 2);
        x.means(0, 2);
        dueGroups(x, 0, 0, 1, 0);
        x = line(0, 20, 10, 15);
        x.means(0, 3);
        dueGroups(x, 0, 0, 1, 2, 1);
        // 10 is 5 from the mean of two rows and from the mean of three
        x = line(0, 20, 10, 11, 14);
        due("means(0, 2)", x.means(0, 2), 2);
        dueGroups(x, 0, 0, 1, 0, 1, 1);
    }

    private static void emptyGroupsTakeRows() {
        says("then, GROUP by GROUP, one that is empty takes the ROW");
        NearGroups x = alike(4);
        due("means(0, 3)", x.means(0, 3), 2);
        dueGroups(x, 0, 1, 2, 0, 0);
        x = alike(6);
        due("means(0, 6)", x.means(0, 6), 2);
        dueGroups(x, 0, 1, 2, 3, 4, 5, 0);

        // in round 2 group 2 loses 3 (10 from -7 and from 13) and 18 (19/4 from 91/4, 5 from 13)
        says("takes the ROW that is farthest from the MEAN of the GROUP that it is in");
        x = line(-13, 34, 3, -5, 19, 18, 18, 19, 19, -5, -5);
        due("means(0, 3)", x.means(0, 3), 3);
        dueGroups(x, 0, 0, 2, 0, 0, 1, 1, 1, 1, 1, 0, 0);

        // in round 3 group 0 loses -50 to -82 3/4 and 16 to 46 2/3
        x = line(-50, -117, -65, 16, -84, -65, 84, 39, 17);
        due("means(0, 3)", x.means(0, 3), 4);
        dueGroups(x, 0, 2, 2, 2, 1, 2, 2, 0, 1, 1);

        says("of GROUPS that have two ROWS at least");
        x = line(-6, 1, 1);
        due("means(0, 3)", x.means(0, 3), 2);
        dueGroups(x, 0, 0, 2, 1);
        x = line(-5, -5, -1, -1);
        due("means(0, 4)", x.means(0, 4), 2);
        dueGroups(x, 0, 2, 0, 3, 1);

        // 136 and both rows beside the line are 45 from their means, -28 and 91, in round 2
        says("that have two ROWS at least, of equals the least ROW");
        int[] beside = {-20, 44, 5};
        int[] otherSide = {-20, -44, -5};
        x = table(3, new int[] {-52}, new int[] {136}, new int[] {12}, new int[] {-20}, new int[] {76}, new int[] {72},
                new int[] {72}, new int[] {76}, new int[] {76}, beside, otherSide);
        due("means(0, 3)", x.means(0, 3), 3);
        dueGroups(x, 0, 0, 2, 0, 0, 1, 1, 1, 1, 1, 0, 0);
        x = table(3, new int[] {-52}, beside, new int[] {136}, new int[] {12}, new int[] {-20}, new int[] {76}, new int[] {72},
                new int[] {72}, new int[] {76}, new int[] {76}, otherSide);
        due("means(0, 3)", x.means(0, 3), 3);
        dueGroups(x, 0, 0, 2, 1, 0, 0, 1, 1, 1, 1, 1, 0);

        // of the new means -20 and 84 2/3 row 1 would be the farthest
        says("(MEANS of this ROUND's beginning)");
        x = table(2, new int[] {-52}, new int[] {136}, new int[] {12}, new int[] {-20}, new int[] {76}, new int[] {72},
                new int[] {72}, new int[] {76}, new int[] {76}, new int[] {-20, 45}, new int[] {-20, -45});
        due("means(0, 3)", x.means(0, 3), 3);
        dueGroups(x, 0, 0, 1, 0, 0, 1, 1, 1, 1, 1, 2, 0);

        says("then MEANS are those of the GROUPS");
        x = line(0, 100, 51, 40, 50, 50, 50);
        due("means(0, 2)", x.means(0, 2), 3);
        dueGroups(x, 0, 0, 1, 0, 0, 0, 0, 0);
        // group 2 takes 34 in round 2, and 33 follows in round 3
        x = line(-13, 34, 3, -5, 19, 19, 19, 19, 19, 19, 18, 18, -5, -5, 33);
        due("means(0, 3)", x.means(0, 3), 4);
        dueGroups(x, 0, 0, 2, 0, 0, 1, 1, 1, 1, 1, 1, 1, 1, 0, 0, 2);
    }

    private static void endOfRounds() {
        says("It ends with the ROUND that leaves each ROW in its GROUP");
        due("what stays at once", line(0, 1, 10, 11).means(0, 2), 2);
        due("what moves once", line(1, 6, -5, -2).means(0, 2), 3);
        NearGroups again = line(0, 1, 10, 11);
        again.means(0, 2);
        due("a slot that has the same already", again.means(0, 2), 2);

        says("(the first one never does)");
        due("one row", line(5).means(0, 1), 2);
        due("one group", line(5, 6, 7).means(1, 1), 2);
        due("alike rows", alike(30).means(1, 1), 2);

        // moved a little, the rows of LONG would take 59, 60, 61, 62 and 64 rounds
        says("or with the 60th");
        due("59 rounds", longRun(3, 0, -39).means(0, 3), 59);
        due("60 rounds", longRun(2, 0, 4).means(0, 3), 60);
        due("61 rounds", longRun(1, 1, 26).means(0, 3), 60);
        due("62 rounds", longRun(1, 1, 19).means(0, 3), 60);
        NearGroups x = longRun(0, 0, 0);
        due("64 rounds", x.means(0, 3), 60);
        PlainModel model = new PlainModel();
        model.columns(3);
        for (int[] row : LONG) model.row(row[0], row[1], row[2], 0);
        model.means(0, 3);
        for (int r = 0; r < LONG.length; r++) due("64 rounds: of(0, " + r + ")", x.of(0, r), model.of(0, r));
    }

    private static final int[][] LONG = {
        {-62, 54, -31}, {324, -447, 457}, {-399, -1000, -838}, {601, -365, 520}, {-116, 116, -429}, {964, 847, 123},
        {-37, -663, 990}, {-148, -537, -45}, {799, 717, 44}, {63, -310, 115}, {344, -700, 499}, {-367, -955, 209},
        {8, -317, -123}, {62, 59, 5}, {-798, -473, 187}, {851, 815, 284}, {255, -350, 20}, {-177, -756, 928},
        {901, -881, -531}, {197, -654, -141}, {171, -536, 880}, {209, -648, -342}, {-61, -407, -62}, {572, -374, 208},
        {-305, 16, -322}, {118, -553, -776}, {-989, -164, 244}, {-995, -537, 711}, {-392, -616, 975}, {525, -437, 82}};

    private static NearGroups longRun(int moved, int column, int by) {
        int[][] rows = new int[LONG.length][];
        for (int r = 0; r < LONG.length; r++) rows[r] = LONG[r].clone();
        rows[moved][column] += by;
        return table(3, rows);
    }

    private static void bestRows() {
        says("those k ROWS for which the sum of the least DISTANCES from all ROWS to one of them is least");
        NearGroups x = line(0, 1, 5, 20, 22, 40);
        due("k = 1", x.medoids(0, 1, 1), 5 + 4 + 15 + 17 + 35);
        dueMedoids(x, 2);
        due("k = 2", x.medoids(0, 1, 2), 1 + 4 + 2 + 18);
        dueMedoids(x, 1, 4);
        due("k = 3", x.medoids(0, 1, 3), 1 + 4 + 2);
        dueMedoids(x, 1, 3, 5);
        due("as many as rows", line(9, 1, 4).medoids(0, 0, 3), 0);
        due("the greatest sum", farthest().medoids(0, 0, 1), 15 * 16000000);
        due("kind 0", line(0, 1, 4).medoids(0, 0, 1), 1 + 9);
        due("kind 2", table(2, new int[] {0, 0}, new int[] {1, 5}, new int[] {2, 9}).medoids(0, 2, 1), 5 + 4);

        says("of equals the first by their numbers (rising, the least first one, then the least second one, and so on)");
        x = line(1, 0);
        due("k = 1", x.medoids(0, 1, 1), 1);
        dueMedoids(x, 0);
        x = line(2, 0, 3, 5);
        due("0 and 3, or 1 and 2", x.medoids(0, 1, 2), 3);
        dueMedoids(x, 0, 3);
        x = line(0, 10, 11);
        due("0 and 1, or 0 and 2", x.medoids(0, 1, 2), 1);
        dueMedoids(x, 0, 1);
        x = line(8, 6, 3, 0, 5);
        due("0, 3, 4, or 1, 2, 3", x.medoids(0, 1, 3), 3);
        dueMedoids(x, 0, 3, 4);
        x = line(8, 0, 5, 2, 3);
        due("0, 1, 4, or 0, 2, 3", x.medoids(0, 1, 3), 3);
        dueMedoids(x, 0, 1, 4);
        x = line(0, 10, 20, 21);
        due("0, 1, 2, or 0, 1, 3", x.medoids(0, 1, 3), 1);
        dueMedoids(x, 0, 1, 2);
        x = alike(30);
        due("all alike", x.medoids(0, 0, 3), 0);
        dueMedoids(x, 0, 1, 2);
    }

    private static void groupsOfBestRows() {
        says("GROUP i are the ROWS that are nearest to the i-th of them");
        NearGroups x = line(22, 40, 0, 20, 1, 5);
        due("medoids(1, 1, 3)", x.medoids(1, 1, 3), 7);
        dueMedoids(x, 0, 1, 4);
        dueGroups(x, 1, 0, 1, 2, 0, 2, 2);
        x = line(10, 0, 11, 12);
        due("medoids(1, 1, 2)", x.medoids(1, 1, 2), 2);
        dueMedoids(x, 1, 2);
        dueGroups(x, 1, 1, 0, 1, 1);

        says("nearest to the i-th of them, of equals the least i");
        x = line(0, 4, 2);
        due("medoids(0, 1, 2)", x.medoids(0, 1, 2), 2);
        dueGroups(x, 0, 0, 1, 0);
        x = line(0, 20, 24, 22);
        due("medoids(0, 1, 3)", x.medoids(0, 1, 3), 2);
        dueGroups(x, 0, 0, 1, 2, 1);

        says("so a GROUP may have none, where ROWS are alike");
        x = line(5, 5, 9);
        due("medoids(0, 0, 3)", x.medoids(0, 0, 3), 0);
        dueGroups(x, 0, 0, 0, 2);
        dueSizes(x, 0, 2, 0, 1);
        x = alike(30);
        x.medoids(1, 2, 3);
        dueSizes(x, 1, 30, 0, 0);

        says("its MEAN is told as 0 / 1");
        x = table(2, new int[] {5, -7}, new int[] {5, -7}, new int[] {5, -7});
        x.medoids(0, 0, 3);
        for (int g = 1; g < 3; g++) {
            for (int column = 0; column < 2; column++) {
                due("what was told before", x.mean(0, 0, 1, 0), -7);
                dueMean(x, 0, g, column, 0, 1);
            }
        }

        says("and it counts nowhere else");
        x = line(5, 5, 8);
        x.medoids(0, 0, 2);
        x.medoids(1, 0, 3);
        dueSum(x, 1, 0, 1);
        dueWell(x, 1, 1, 0, 1, 1);
        dueWell(x, 1, 1, 2, 0, 1);
        dueAgree(x, 1, 0, 0, 2);
        x = line(5, 5);
        x.medoids(0, 0, 2);
        dueWell(x, 0, 0, 0, 0, 1);
    }

    private static void cores() {
        says("a ROW is a CORE, if m ROWS at least, it itself too");
        NearGroups x = line(0, 1, 2);
        due("m = 3", x.density(0, 1, 1, 3), 1);
        dueGroups(x, 0, 0, 0, 0);
        due("m = 4", x.density(0, 1, 1, 4), 0);
        dueGroups(x, 0, NONE, NONE, NONE);
        due("it itself is enough", line(7).density(0, 0, 0, 1), 1);
        due("it itself is not enough", line(7).density(0, 0, 0, 2), 0);
        due("thirty", alike(30).density(0, 0, 0, 30), 1);
        due("twenty-nine", alike(29).density(0, 0, 0, 30), 0);

        says("are no farther from it than e");
        due("as far as e", line(0, 5).density(0, 1, 5, 2), 1);
        due("farther by one", line(0, 5).density(0, 1, 4, 2), 0);
        due("squares as far as e", line(0, 5).density(0, 0, 25, 2), 1);
        due("squares farther by one", line(0, 5).density(0, 0, 24, 2), 0);
        due("e = 0, alike", line(3, 3).density(0, 2, 0, 2), 1);
        due("e = 0, not alike", line(3, 4).density(0, 2, 0, 2), 0);
        due("the farthest rows", farthest().density(0, 0, 16000000, 30), 1);
        due("not quite the farthest rows", farthest().density(0, 0, 15999999, 30), 0);
    }

    private static void groupsOfCores() {
        says("COREs no farther from one another than e are in one GROUP");
        NearGroups x = line(0, 3, 7);
        due("density(0, 1, 3, 1)", x.density(0, 1, 3, 1), 2);
        dueGroups(x, 0, 0, 0, 1);
        due("density(0, 1, 4, 1)", x.density(0, 1, 4, 1), 1);
        due("density(0, 1, 2, 1)", x.density(0, 1, 2, 1), 3);

        says("and so on through others");
        int[] chain = new int[ROWS];
        for (int r = 0; r < ROWS; r++) chain[r] = r % 2 == 0 ? r : ROWS - r;
        due("thirty in a chain", line(chain).density(0, 1, 1, 1), 1);
        x = line(0, 4, 2, 8, 6, 20);
        due("density(0, 1, 2, 1)", x.density(0, 1, 2, 1), 2);
        dueGroups(x, 0, 0, 0, 0, 0, 0, 1);
        // row 2 lies between but is no core
        x = line(0, 1, 3, 5, 6);
        due("not through a row that is no core", x.density(0, 1, 1, 2), 2);
        dueGroups(x, 0, 0, 0, NONE, 1, 1);

        says("GROUPS are numbered by their least COREs");
        x = line(11, 0, 1, 2, 8, 9, 10);
        due("density(0, 1, 1, 3)", x.density(0, 1, 1, 3), 2);
        dueGroups(x, 0, 1, 0, 0, 0, 1, 1, 1);
    }

    private static void rowsBesideCores() {
        says("A ROW that is none goes into the least GROUP of which a CORE is no farther from it than e");
        NearGroups x = line(0, 1, 2, 5, 8, 9, 10);
        due("as near to both", x.density(0, 1, 3, 4), 2);
        dueGroups(x, 0, 0, 0, 0, 0, 1, 1, 1);
        // 2 and 7 are the cores; 5 is nearer to 7
        x = line(2, 7, 5, -1, -1, -1, -1, 10, 10, 10, 10);
        due("nearer to group 1", x.density(0, 1, 3, 6), 2);
        dueGroups(x, 0, 0, 1, 0, 0, 0, 0, 0, 1, 1, 1, 1);
        x = line(7, 2, 5, -1, -1, -1, -1, 10, 10, 10, 10);
        due("nearer to group 0", x.density(0, 1, 3, 6), 2);
        dueGroups(x, 0, 0, 1, 0, 1, 1, 1, 1, 0, 0, 0, 0);

        says("into none, if there is no such");
        x = line(0, 1, 2, 5);
        due("farther by one", x.density(0, 1, 2, 3), 1);
        dueGroups(x, 0, 0, 0, 0, NONE);
        due("as far as e", x.density(0, 1, 3, 4), 1);
        dueGroups(x, 0, 0, 0, 0, 0);
        // row 4 is near to row 3, which is beside the core but is none
        x = table(2, new int[] {0, 0}, new int[] {1, 0}, new int[] {-1, 0}, new int[] {0, 1}, new int[] {0, 2});
        due("a core with three beside it", x.density(0, 1, 1, 4), 1);
        dueGroups(x, 0, 0, 0, 0, 0, NONE);
    }

    private static void clusters() {
        says("at first each ROW is a CLUSTER of its own");
        NearGroups x = line(5);
        due("one row", x.tree(0, 0), 0);
        due("cut(0, 1)", x.cut(0, 1), 1);
        dueGroups(x, 0, 0);
        x = line(3, 3, 3);
        x.tree(0, 0);
        x.cut(0, 3);
        dueGroups(x, 0, 0, 1, 2);

        says("a CLUSTER is called by its least ROW");
        x = line(50, 10, 0, 11);
        x.tree(0, 1);
        dueJoin(x, 0, 1, 3, 2, 1, 1);
        dueJoin(x, 1, 1, 2, 3, 10, 1);
        dueJoin(x, 2, 0, 1, 4, 39, 1);

        says("the two CLUSTERS that are least apart are joined, of equals those of the least a");
        x = line(100, 50, 51, 101, 0, 1);
        x.tree(0, 1);
        dueJoin(x, 0, 0, 3, 2, 1, 1);
        dueJoin(x, 1, 1, 2, 2, 1, 1);
        dueJoin(x, 2, 4, 5, 2, 1, 1);

        says("then the least b (a below b)");
        x = line(10, 20, 11, 9);
        x.tree(1, 1);
        dueJoin(x, 0, 0, 2, 2, 1, 1);
        x = line(10, 9, 20, 11);
        x.tree(1, 1);
        dueJoin(x, 0, 0, 1, 2, 1, 1);

        says("till there is one");
        for (int way = 0; way < 4; way++) {
            x = alike(30);
            due("thirty rows", x.tree(way, 0), 29);
            for (int i = 0; i < 29; i++) dueJoin(x, i, 0, i + 1, i + 2, 0, 1);
            due("join(29, 0)", x.join(29, 0), NONE);
        }
    }

    private static void ways() {
        says("0 the least DISTANCE of a ROW of one and a ROW of the other");
        NearGroups x = line(0, 2, 5, 9, 14);
        x.tree(0, 1);
        dueJoin(x, 1, 0, 2, 3, 3, 1);
        dueJoin(x, 3, 0, 4, 5, 5, 1);
        x = farthest();
        x.tree(0, 0);
        dueJoin(x, 28, 0, 1, 30, 16000000, 1);

        says("1 the greatest");
        x = line(0, 2, 5, 9, 14);
        x.tree(1, 1);
        dueJoin(x, 1, 2, 3, 2, 4, 1);
        dueJoin(x, 2, 0, 2, 4, 9, 1);
        dueJoin(x, 3, 0, 4, 5, 14, 1);
        x = farthest();
        x.tree(1, 0);
        dueJoin(x, 28, 0, 1, 30, 16000000, 1);

        says("2 the mean of all these");
        x = line(0, 2, 5, 9);
        x.tree(2, 1);
        dueJoin(x, 1, 0, 2, 3, 4, 1);
        dueJoin(x, 2, 0, 3, 4, 20, 3);
        // 10/3 is less than 7/2, though both are 3 when the rest is dropped
        x = line(0, 1, 4, 100, 101, 101, 104);
        x.tree(2, 1);
        dueJoin(x, 3, 3, 6, 4, 10, 3);
        dueJoin(x, 4, 0, 2, 3, 7, 2);
        // 14/4 and 7/2 are equals
        x = line(100, 101, 104, 104, 0, 1, 4);
        x.tree(2, 1);
        dueJoin(x, 3, 0, 2, 4, 7, 2);
        dueJoin(x, 4, 4, 6, 3, 7, 2);
        x = farthest();
        x.tree(2, 0);
        dueJoin(x, 28, 0, 1, 30, 16000000, 1);

        says("3 what the sum of squares from the MEANS grows by, when they are joined");
        x = line(0, 2, 5, 9);
        x.tree(3, 0);
        dueJoin(x, 0, 0, 1, 2, 2, 1);
        dueJoin(x, 1, 2, 3, 2, 8, 1);
        dueJoin(x, 2, 0, 2, 4, 36, 1);
        for (int g = 4; g >= 1; g--) {
            x.cut(0, g);
            dueSum(x, 0, new int[] {46, 10, 2, 0}[g - 1], 1);
        }
        // 25/6 is less than 9/2, though both are 4 when the rest is dropped
        x = line(100, 103, 0, 1, 3);
        x.tree(3, 0);
        dueJoin(x, 0, 2, 3, 2, 1, 2);
        dueJoin(x, 1, 2, 4, 3, 25, 6);
        dueJoin(x, 2, 0, 1, 2, 9, 2);
        x = farthest();
        x.tree(3, 0);
        dueJoin(x, 28, 0, 1, 30, 120000000, 1);

        says("(whatever the KIND)");
        for (int kind = 0; kind < 3; kind++) {
            x = table(2, new int[] {0, 0}, new int[] {3, 3}, new int[] {0, 5}, new int[] {9, 9});
            x.tree(3, kind);
            dueJoin(x, 0, 1, 2, 2, 13, 2);
            dueJoin(x, 1, 0, 1, 3, 73, 6);
            dueJoin(x, 2, 0, 3, 4, 937, 12);
        }
    }

    private static void treeIsGone() {
        says("THE TREE is gone when a ROW comes");
        NearGroups x = line(1, 2);
        x.tree(0, 0);
        due("row", x.row(3, 0, 0, 0), 2);
        dueNoTree(x);
        x = line(1);
        x.tree(0, 0);
        due("row", x.row(3, 0, 0, 0), 1);
        dueNoTree(x);

        says("THE TREE is gone when a ROW comes, or all go");
        x = line(1, 2);
        x.tree(0, 0);
        due("clear()", x.clear(), 2);
        dueNoTree(x);
        x.row(1, 0, 0, 0);
        x.row(2, 0, 0, 0);
        dueNoTree(x);
    }

    private static void cuts() {
        says("CUT into g: what the CLUSTERS are behind so many joins that g are left");
        NearGroups x = line(0, 2, 5, 9);
        x.tree(1, 1);
        x.cut(0, 4);
        dueGroups(x, 0, 0, 1, 2, 3);
        x.cut(0, 3);
        dueGroups(x, 0, 0, 0, 1, 2);
        x.cut(0, 2);
        dueGroups(x, 0, 0, 0, 1, 1);
        x.cut(0, 1);
        dueGroups(x, 0, 0, 0, 0, 0);

        says("GROUPS are numbered by their least ROWS");
        x = line(10, 1, 11, 0, 9);
        x.tree(0, 0);
        x.cut(1, 2);
        dueGroups(x, 1, 0, 1, 0, 1, 0);
        x.cut(1, 3);
        dueGroups(x, 1, 0, 1, 0, 2, 0);
    }

    private static void howWell() {
        says("x is the mean DISTANCE to the others of its GROUP");
        NearGroups x = line(0, 1, 5, 100);
        x.tree(0, 1);
        x.cut(0, 2);
        dueWell(x, 0, 1, 0, 97, 100);
        dueWell(x, 0, 1, 1, 193, 198);

        says("y the least of the mean DISTANCES to the ROWS of another GROUP, of all others");
        x = line(0, 1, 10, 12, -20, -21);
        x.tree(0, 1);
        x.cut(0, 3);
        dueWell(x, 0, 1, 0, 10, 11);
        dueWell(x, 0, 1, 4, 39, 41);
        dueWell(x, 0, 0, 2, 173, 181);
        // 10/3 is less than 7/2
        x = line(0, 1, 3, 4, -3, -3, -4);
        x.tree(0, 1);
        x.cut(0, 3);
        dueWell(x, 0, 1, 0, 7, 10);

        says("(y - x) / (the greater one)");
        x = line(0, 2, 4, 6, 8, 10, 13);
        x.tree(0, 1);
        x.cut(0, 2);
        dueWell(x, 0, 1, 5, -1, 2);
        dueWell(x, 0, 1, 0, 7, 13);
        x = line(0, 2, 4);
        x.tree(0, 1);
        x.cut(0, 2);
        dueWell(x, 0, 1, 1, 0, 1);
        x = line(5, 5, 6);
        x.medoids(0, 0, 2);
        dueWell(x, 0, 0, 0, 1, 1);

        says("0, if it is alone in its GROUP");
        dueWell(x, 0, 0, 2, 0, 1);
        x = line(0, 10, 11);
        x.means(1, 2);
        dueWell(x, 1, 1, 0, 0, 1);

        says("there is no other GROUP");
        x = line(0, 10, 11);
        x.means(0, 1);
        for (int i = 0; i < 3; i++) dueWell(x, 0, 1, i, 0, 1);
        x = line(0, 1, 50);
        x.density(0, 1, 1, 2);
        dueWell(x, 0, 1, 0, 0, 1);

        says("or both are 0");
        x = alike(4);
        x.means(0, 2);
        dueSizes(x, 0, 3, 1);
        dueWell(x, 0, 0, 1, 0, 1);
        x = line(3, 3, 3, 3);
        x.tree(0, 0);
        x.cut(0, 2);
        for (int kind = 0; kind < 3; kind++) {
            due("what was told before", x.mean(0, 0, 0, 0), 3);
            dueWell(x, 0, kind, 0, 0, 1);
        }
    }

    private static void agreement() {
        says("of all pairs of ROWS that are in a GROUP in both");
        NearGroups x = line(0, 1, 50, 51, 20);
        x.density(0, 1, 1, 2);
        x.means(1, 1);
        dueAgree(x, 2, 0, 4, 0);
        x.density(1, 1, 1, 3);
        dueAgree(x, 0, 0, 0, 0);
        x.means(0, 1);
        x.density(1, 1, 1, 2);
        dueAgree(x, 2, 4, 0, 0);
        for (int slot = 0; slot < 2; slot++) {
            x = line(20, 0, 1, 50, 51);
            x.density(slot, 1, 1, 2);
            x.means(1 - slot, 1);
            dueAgree(x, 2, slot == 0 ? 0 : 4, slot == 0 ? 4 : 0, 0);
        }

        says("how many are in one GROUP in both, in SLOT 0 alone, in SLOT 1 alone, in neither");
        x = line(0, 1, 10, 11, 30);
        x.tree(0, 1);
        x.cut(0, 3);
        x.cut(1, 2);
        dueAgree(x, 2, 0, 4, 4);
        x.cut(0, 1);
        dueAgree(x, 6, 4, 0, 0);
        x.cut(0, 5);
        x.cut(1, 5);
        dueAgree(x, 0, 0, 0, 10);
        x = alike(30);
        x.means(0, 1);
        x.means(1, 1);
        dueAgree(x, 435, 0, 0, 0);
        x = line(4);
        x.means(0, 1);
        x.means(1, 1);
        dueAgree(x, 0, 0, 0, 0);
    }

    private static void lastCall() {
        says("An object is used for at most 512 calls after it has been made");
        NearGroups x = new NearGroups();
        for (int call = 1; call <= 508; call++) {
            if (call % 31 == 0) due("clear() as call " + call, x.clear(), 30);
            else due("row as call " + call, x.row(call % 31, -call % 31, 0, 0), call % 31 - 1);
        }
        int rows = 508 % 31;
        due("call 509", x.count(0), rows);
        due("call 510", x.tree(3, 0), rows - 1);
        due("call 511", x.cut(1, rows), 1);
        due("call 512", x.size(1, rows - 1), 1);
    }
}
