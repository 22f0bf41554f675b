/**
 * What the tests of the boundary cases share. Each of them begins with says(), which takes the words of
 * the document that it stands for; all checks till the next says() stand under these words.
 */
abstract class Edges {
    static final int NONE = -1, UNKNOWN = -2000000001, OUTSIDE = -2000000002, STATE = -2000000003, ROOM = -2000000004;
    static final int LEAST = Integer.MIN_VALUE, MOST = Integer.MAX_VALUE;
    static final int ROWS = 30;

    private static String words = null;
    private static int sentences = 0;
    private static int checks = 0;
    private static int wrong = 0;

    static void says(String newWords) {
        closeSentence();
        words = newWords;
        sentences++;
    }

    /** A sentence without a check would be no test. */
    private static void closeSentence() {
        if (words != null && checks == 0) {
            wrong++;
            System.out.println("\"" + words + "\": nothing was checked");
        }
        checks = 0;
    }

    static void due(String call, long got, long want) {
        checks++;
        if (got == want) return;
        wrong++;
        System.out.println("\"" + words + "\": " + call + " answered " + got + ", due is " + want);
    }

    static void end() {
        closeSentence();
        System.out.println(wrong == 0 ? "all " + sentences + " sentences hold" : wrong + " answers are not as due");
        if (wrong != 0) System.exit(1);
    }

    /** The numbers beside the bounds on either side, and the farthest ones. */
    static int[] outside(int least, int greatest) {
        return new int[] {least - 1, greatest + 1, LEAST, MOST};
    }

    static NearGroups table(int columns, int[]... rows) {
        NearGroups x = new NearGroups();
        x.columns(columns);
        for (int[] row : rows) x.row(at(row, 0), at(row, 1), at(row, 2), at(row, 3));
        return x;
    }

    private static int at(int[] row, int column) {
        return column < row.length ? row[column] : 0;
    }

    /** One column. */
    static NearGroups line(int... numbers) {
        NearGroups x = new NearGroups();
        x.columns(1);
        for (int number : numbers) x.row(number, 0, 0, 0);
        return x;
    }

    /** So many rows of one column, all of them alike. */
    static NearGroups alike(int rows) {
        return line(new int[rows]);
    }

    /** Thirty rows of four columns, fifteen at either end of the numbers by turns. */
    static NearGroups farthest() {
        NearGroups x = new NearGroups();
        x.columns(4);
        for (int r = 0; r < ROWS; r++) {
            int end = r % 2 == 0 ? -1000 : 1000;
            x.row(end, end, end, end);
        }
        return x;
    }

    static void dueGroups(NearGroups x, int slot, int... groups) {
        for (int r = 0; r < groups.length; r++) due("of(" + slot + ", " + r + ")", x.of(slot, r), groups[r]);
    }

    static void dueSizes(NearGroups x, int slot, int... sizes) {
        due("count(" + (2 + slot) + ")", x.count(2 + slot), sizes.length);
        for (int g = 0; g < sizes.length; g++) due("size(" + slot + ", " + g + ")", x.size(slot, g), sizes[g]);
    }

    static void dueMean(NearGroups x, int slot, int g, int column, int above, int below) {
        due("mean(" + slot + ", " + g + ", " + column + ", 0)", x.mean(slot, g, column, 0), above);
        due("mean(" + slot + ", " + g + ", " + column + ", 1)", x.mean(slot, g, column, 1), below);
    }

    static void dueSum(NearGroups x, int slot, long above, long below) {
        due("sum(" + slot + ", 0)", x.sum(slot, 0), above);
        due("sum(" + slot + ", 1)", x.sum(slot, 1), below);
    }

    static void dueWell(NearGroups x, int slot, int kind, int i, long above, long below) {
        due("well(" + slot + ", " + kind + ", " + i + ", 0)", x.well(slot, kind, i, 0), above);
        due("well(" + slot + ", " + kind + ", " + i + ", 1)", x.well(slot, kind, i, 1), below);
    }

    static void dueJoin(NearGroups x, int i, long... parts) {
        for (int what = 0; what < parts.length; what++) due("join(" + i + ", " + what + ")", x.join(i, what), parts[what]);
    }

    static void dueMedoids(NearGroups x, int... rows) {
        for (int i = 0; i < rows.length; i++) due("medoid(" + i + ")", x.medoid(i), rows[i]);
        due("medoid(" + rows.length + ")", x.medoid(rows.length), NONE);
    }

    static void dueAgree(NearGroups x, int... pairs) {
        for (int what = 0; what < pairs.length; what++) due("agree(" + what + ")", x.agree(what), pairs[what]);
    }

    /** Everything that asks for the grouping of a slot, of an object that has rows. */
    static void dueEmpty(NearGroups x, int slot) {
        due("count(" + (2 + slot) + ")", x.count(2 + slot), NONE);
        due("of(" + slot + ", 0)", x.of(slot, 0), STATE);
        due("size(" + slot + ", 0)", x.size(slot, 0), STATE);
        due("mean(" + slot + ", 0, 0, 0)", x.mean(slot, 0, 0, 0), STATE);
        due("sum(" + slot + ", 0)", x.sum(slot, 0), STATE);
        due("well(" + slot + ", 0, 0, 0)", x.well(slot, 0, 0, 0), STATE);
        due("agree(0)", x.agree(0), STATE);
    }

    static void dueNoTree(NearGroups x) {
        due("count(4)", x.count(4), NONE);
        due("join(0, 0)", x.join(0, 0), STATE);
        due("cut(0, 1)", x.cut(0, 1), STATE);
    }
}
