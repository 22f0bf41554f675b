import java.util.Random;

/**
 * What random rows hardly ever bring: groups by means that lose all their rows in a later round (shapes
 * that do, and shapes near to them, against the plain model), and rows that would go on behind round 60.
 */
public final class MeansRoundsTest {
    private static final int TURNS = 600;
    private static int wrong = 0;

    private static final int[][] SMALL = {{-336}, {-781}, {-450}, {106}, {-559}, {-436}, {556}, {273}, {107}};
    private static final int[][] TWO_ENDS = {{-308}, {792}, {59}, {-125}, {503}, {425}, {425}, {426}, {464}, {-128}, {-125}};
    private static final int[][] NARROW = {
        {9}, {12}, {18}, {-6}, {19}, {12}, {-28}, {15}, {27}, {-12}, {-20}, {-17}, {-6}, {13}, {-12}, {-6}, {13}, {-5}, {-6},
        {-8}, {-8}, {15}, {12}, {-14}, {-9}};
    private static final int[][] SPACE = {
        {-1000, -465, 496}, {-935, 550, 889}, {-599, -175, 575}, {-482, 870, 1}, {752, -125, -973}, {-626, -384, -858},
        {-828, -214, -982}, {-255, 85, 283}, {-749, -246, -949}, {-448, -529, -679}};
    // here it matters that the farthest row is told by the means of the round's beginning
    private static final int[][] NARROW_SPACE = {
        {7, 30, -24}, {-11, 30, 22}, {-28, -3, -9}, {-30, -7, -11}, {-30, -3, -6}, {-7, -29, 26}, {-30, 30, -12},
        {-25, -2, -1}, {11, 30, 4}, {29, 25, 11}, {-30, 30, -12}};
    private static final int[][] PLANE = {
        {-356, 519}, {-509, -825}, {36, 998}, {-141, 399}, {271, 667}, {-749, -402}, {45, 1000}, {530, 367}, {166, 957},
        {973, -392}, {710, 998}, {275, 95}, {-196, -596}, {-591, -682}, {155, 310}, {-275, 154}, {64, 986}, {-628, -249},
        {-357, 584}, {244, 36}, {-689, -508}, {150, 829}, {548, 109}, {-1000, 220}, {38, 990}, {571, 399}, {-866, -976}};

    // without a bound these would take 64 rounds for 3 groups
    private static final int[][] LONG = {
        {-62, 54, -31}, {324, -447, 457}, {-399, -1000, -838}, {601, -365, 520}, {-116, 116, -429}, {964, 847, 123},
        {-37, -663, 990}, {-148, -537, -45}, {799, 717, 44}, {63, -310, 115}, {344, -700, 499}, {-367, -955, 209},
        {8, -317, -123}, {62, 59, 5}, {-798, -473, 187}, {851, 815, 284}, {255, -350, 20}, {-177, -756, 928},
        {901, -881, -531}, {197, -654, -141}, {171, -536, 880}, {209, -648, -342}, {-61, -407, -62}, {572, -374, 208},
        {-305, 16, -322}, {118, -553, -776}, {-989, -164, 244}, {-995, -537, 711}, {-392, -616, 975}, {525, -437, 82}};

    public static void main(String[] args) {
        reckonedByHand();
        near(SMALL, 3);
        near(TWO_ENDS, 3);
        near(NARROW, 3);
        near(SPACE, 3);
        near(NARROW_SPACE, 3);
        near(PLANE, 5);
        endsWithRoundSixty();
        System.out.println(wrong == 0 ? "the rounds are as due" : wrong + " answers are not as due");
        if (wrong != 0) System.exit(1);
    }

    private static void due(String call, long got, long want) {
        if (got == want || wrong > 20) return;
        wrong++;
        System.out.println(call + " answered " + got + ", due is " + want);
    }

    private static int at(int[] row, int column) {
        return column < row.length ? row[column] : 0;
    }

    /** In round 3 group 0 loses rows 0 and 3 and takes row 6, the farthest from its mean 312. */
    private static void reckonedByHand() {
        NearGroups x = new NearGroups();
        x.columns(1);
        for (int[] row : SMALL) x.row(row[0], 0, 0, 0);
        due("means(0, 3)", x.means(0, 3), 4);
        int[] groups = {2, 2, 2, 1, 2, 2, 0, 1, 1};
        for (int r = 0; r < groups.length; r++) due("of(0, " + r + ")", x.of(0, r), groups[r]);
    }

    private static void endsWithRoundSixty() {
        NearGroups x = new NearGroups();
        x.columns(3);
        for (int[] row : LONG) x.row(row[0], row[1], row[2], 0);
        due("60 rounds: means(0, 3)", x.means(0, 3), 60);
        compare(LONG, 3, 0, 0, 0);
    }

    private static void near(int[][] shape, int k) {
        Random random = new Random(shape.length);
        for (int turn = 0; turn < TURNS; turn++) {
            int moved = random.nextInt(shape.length);
            int column = random.nextInt(shape[0].length);
            int by = turn == 0 ? 0 : random.nextInt(41) - 20;
            compare(shape, k, moved, column, by);
        }
    }

    private static void compare(int[][] shape, int k, int moved, int column, int by) {
        NearGroups x = new NearGroups();
        PlainModel model = new PlainModel();
        x.columns(shape[0].length);
        model.columns(shape[0].length);
        for (int r = 0; r < shape.length; r++) {
            int[] row = shape[r].clone();
            if (r == moved) row[column] = Math.max(-1000, Math.min(1000, row[column] + by));
            x.row(at(row, 0), at(row, 1), at(row, 2), 0);
            model.row(at(row, 0), at(row, 1), at(row, 2), 0);
        }
        String what = shape.length + " rows, row " + moved + " moved by " + by + ": ";
        due(what + "means", x.means(0, k), model.means(0, k));
        for (int r = 0; r < shape.length; r++) due(what + "of(0, " + r + ")", x.of(0, r), model.of(0, r));
    }
}
