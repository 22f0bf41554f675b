import java.util.Random;

/** Runs of random calls on NearGroups and on the plain model: both must answer alike, call by call. */
public final class ModelTest {
    private static final int RUNS = 6000;
    // nothing is promised behind an object's 512th call; one turn makes fewer than 170
    private static final int LAST_TURN = 512 - 170;
    private static int wrong = 0;

    private final Random random;
    private final NearGroups subject = new NearGroups();
    private final PlainModel model = new PlainModel();
    private final int run;
    private final int spread;
    private final int mostRows;
    private int made = 0;

    private ModelTest(int run) {
        this.run = run;
        random = new Random(run);
        // narrow spreads bring alike rows and equal distances, wide ones the greatest numbers
        spread = new int[] {0, 1, 2, 5, 20, 100, 1000}[run % 7];
        mostRows = new int[] {2, 4, 7, 12, 30}[run % 5];
    }

    public static void main(String[] args) {
        for (int run = 0; run < RUNS && wrong < 20; run++) {
            new ModelTest(run).play();
        }
        System.out.println(wrong == 0 ? "the model agrees" : "the model does not agree");
        if (wrong != 0) System.exit(1);
    }

    private void play() {
        check("columns", subject.columns(1 + run % 4), model.columns(1 + run % 4));
        for (int r = random.nextInt(mostRows + 1); r > 0; r--) addRow();
        while (made < LAST_TURN && wrong < 20) call(random.nextInt(46));
    }

    /** Each check stands for one call of the subject. */
    private void check(String call, long got, long want) {
        made++;
        if (got == want) return;
        wrong++;
        System.out.println("run " + run + ": " + call + " answered " + got + ", the model " + want);
    }

    /** Mostly from 0 to below the bound, at times just beside it or far off. */
    private int pick(int bound) {
        int dice = random.nextInt(40);
        if (dice == 0) return -1;
        if (dice == 1) return bound;
        if (dice == 2) return random.nextInt();
        return random.nextInt(Math.max(1, bound));
    }

    private int pickRow() {
        return pick(model.count(0));
    }

    private int number() {
        int dice = random.nextInt(40);
        if (dice == 0) return random.nextBoolean() ? 1000 : -1000;
        return random.nextInt(2 * spread + 1) - spread;
    }

    private void addRow() {
        int a = number();
        int b = number();
        int c = number();
        int d = number();
        check("row", subject.row(a, b, c, d), model.row(a, b, c, d));
    }

    private void call(int which) {
        switch (which) {
            case 0 -> { if (model.count(0) < mostRows || mostRows == 30) addRow(); }
            case 1 -> badRow();
            case 2 -> { int n = pick(6); check("columns(" + n + ")", subject.columns(n), model.columns(n)); }
            case 3 -> { if (random.nextInt(8) == 0) clearAndRefill(); }
            case 4, 5, 6, 7 -> callMeans();
            case 8, 9, 10, 11 -> callMedoids();
            case 12, 13, 14, 15 -> callDensity();
            case 16, 17, 18, 19 -> callTree();
            case 20, 21, 22, 23 -> callCut();
            case 24, 25, 26 -> callDistance();
            case 27, 28, 29 -> callNear();
            case 30, 31, 32 -> callJoin();
            default -> askGroupings(which);
        }
        look();
    }

    private void badRow() {
        int a = number() + (random.nextBoolean() ? 1001 + spread : 0);
        int b = random.nextInt();
        check("bad row", subject.row(a, b, 1001, -1001), model.row(a, b, 1001, -1001));
    }

    private void clearAndRefill() {
        check("clear", subject.clear(), model.clear());
        look();
        int n = 1 + random.nextInt(4);
        check("columns", subject.columns(n), model.columns(n));
        for (int r = random.nextInt(mostRows + 1); r > 0; r--) addRow();
    }

    private void look() {
        for (int what = -1; what <= 5; what++) check("count(" + what + ")", subject.count(what), model.count(what));
        for (int i = -1; i <= 3; i++) check("medoid(" + i + ")", subject.medoid(i), model.medoid(i));
    }

    private void lookAt(int slot) {
        for (int r = 0; r <= model.count(0); r++) check("of(" + slot + ", " + r + ")", subject.of(slot, r), model.of(slot, r));
    }

    private void callMeans() {
        int slot = pick(2);
        int k = pick(7);
        check("means(" + slot + ", " + k + ")", subject.means(slot, k), model.means(slot, k));
        lookAt(slot);
    }

    private void callMedoids() {
        int slot = pick(2);
        int kind = pick(3);
        int k = pick(4);
        check("medoids(" + slot + ", " + kind + ", " + k + ")", subject.medoids(slot, kind, k), model.medoids(slot, kind, k));
        lookAt(slot);
    }

    private void callDensity() {
        int slot = pick(2);
        int kind = pick(3);
        int e = pick(kind == 0 ? 2 * spread * spread + 2 : 2 * spread + 2);
        int m = random.nextInt(4) == 0 ? pick(31) : pick(5);
        check("density(" + slot + ", " + kind + ", " + e + ", " + m + ")", subject.density(slot, kind, e, m), model.density(slot, kind, e, m));
        lookAt(slot);
    }

    private void callTree() {
        int way = pick(4);
        int kind = pick(3);
        check("tree(" + way + ", " + kind + ")", subject.tree(way, kind), model.tree(way, kind));
        for (int i = 0; i < model.count(4); i++) {
            for (int what = 0; what < 5; what++) check("join(" + i + ", " + what + ")", subject.join(i, what), model.join(i, what));
        }
    }

    private void callCut() {
        int slot = pick(2);
        int g = random.nextInt(4) == 0 ? pick(31) : pick(model.count(0) + 1);
        check("cut(" + slot + ", " + g + ")", subject.cut(slot, g), model.cut(slot, g));
        lookAt(slot);
    }

    private void callDistance() {
        int kind = pick(3);
        int i = pickRow();
        int j = pickRow();
        check("distance(" + kind + ", " + i + ", " + j + ")", subject.distance(kind, i, j), model.distance(kind, i, j));
    }

    private void callNear() {
        int kind = pick(3);
        int i = pickRow();
        int k = pickRow();
        check("near(" + kind + ", " + i + ", " + k + ")", subject.near(kind, i, k), model.near(kind, i, k));
    }

    private void callJoin() {
        int i = pickRow();
        int what = pick(5);
        check("join(" + i + ", " + what + ")", subject.join(i, what), model.join(i, what));
    }

    private void askGroupings(int which) {
        int slot = pick(2);
        int i = pickRow();
        int g = pick(Math.max(1, slot == 0 || slot == 1 ? model.count(2 + slot) : 1));
        int kind = pick(3);
        int column = pick(model.count(1));
        int side = pick(2);
        switch (which % 5) {
            case 0 -> {
                check("size(" + slot + ", " + g + ")", subject.size(slot, g), model.size(slot, g));
                check("mean(" + slot + ", " + g + ", " + column + ", " + side + ")", subject.mean(slot, g, column, side), model.mean(slot, g, column, side));
            }
            case 1 -> check("sum(" + slot + ", " + side + ")", subject.sum(slot, side), model.sum(slot, side));
            case 2 -> {
                int what = pick(4);
                check("agree(" + what + ")", subject.agree(what), model.agree(what));
            }
            default -> check("well(" + slot + ", " + kind + ", " + i + ", " + side + ")", subject.well(slot, kind, i, side), model.well(slot, kind, i, side));
        }
    }
}
