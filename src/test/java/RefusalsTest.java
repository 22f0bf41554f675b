import java.util.ArrayList;
import java.util.LinkedHashMap;
import java.util.List;
import java.util.Map;
import java.util.Set;
import java.util.TreeSet;

/**
 * Every call, with every mixture of numbers on and beside its bounds, in every scene: the refusal that is due
 * is told from the facts of the scene by the document's order alone. A refused call, and one that only asks,
 * changes nothing; a call that changes something leaves the rest.
 */
public final class RefusalsTest {
    private static final int UNKNOWN = -2000000001, OUTSIDE = -2000000002, STATE = -2000000003, ROOM = -2000000004;
    private static final int LEAST = Integer.MIN_VALUE, MOST = Integer.MAX_VALUE;
    // building, these and the picture together stay below the 512 calls of an object
    private static final int BATCH = 100;
    private static int wrong = 0;
    private static int calls = 0;
    private static final Set<String> seen = new TreeSet<>();

    /** What is known of an object; groups and joins are -1 where there are none; the rows that are in no group. */
    private record Scene(String name, int columns, int rows, int groups0, int groups1, int joins, Set<Integer> none0, Set<Integer> none1) {
        int groups(int slot) {
            return slot == 0 ? groups0 : groups1;
        }

        Set<Integer> none(int slot) {
            return slot == 0 ? none0 : none1;
        }
    }

    private static final List<Scene> SCENES = List.of(
            new Scene("new", 2, 0, -1, -1, -1, Set.of(), Set.of()),
            new Scene("cleared", 3, 0, -1, -1, -1, Set.of(), Set.of()),
            new Scene("one row", 1, 1, -1, -1, -1, Set.of(), Set.of()),
            new Scene("one row, all made", 4, 1, 1, 1, 0, Set.of(), Set.of()),
            new Scene("slot 0", 1, 4, 2, -1, -1, Set.of(), Set.of()),
            new Scene("slot 1", 2, 4, -1, 3, -1, Set.of(), Set.of()),
            new Scene("rows in none", 1, 4, 0, 1, 3, Set.of(0, 1, 2, 3), Set.of(3)),
            new Scene("alike", 3, 3, 3, 3, -1, Set.of(), Set.of()),
            new Scene("tree", 2, 5, -1, -1, 4, Set.of(), Set.of()),
            new Scene("one row fewer", 2, 29, 6, 2, 28, Set.of(), Set.of()),
            new Scene("full", 4, 30, 30, 3, 29, Set.of(), Set.of()));

    private static NearGroups make(Scene scene) {
        NearGroups x = new NearGroups();
        if (scene.columns != 2) x.columns(scene.columns);
        int[] numbers = scene.name.equals("alike") ? new int[3] : new int[] {0, 1, 10, 30, 31};
        for (int r = 0; r < scene.rows; r++) {
            if (scene.rows > 5) x.row(r * r, -r, r % 7, r % 3);
            else x.row(numbers[r], -numbers[r], 7, -7);
        }
        switch (scene.name) {
            case "cleared" -> {
                x.row(1, 2, 3, 4);
                x.means(0, 1);
                x.medoids(1, 0, 1);
                x.tree(0, 0);
                x.clear();
            }
            case "one row, all made" -> {
                x.means(0, 1);
                x.medoids(1, 2, 1);
                x.tree(3, 0);
            }
            case "slot 0" -> x.means(0, 2);
            case "slot 1" -> x.medoids(1, 1, 3);
            case "rows in none" -> {
                x.density(0, 1, 1, 30);
                x.density(1, 1, 9, 2);
                x.tree(2, 1);
            }
            case "alike" -> {
                x.medoids(0, 0, 3);
                x.means(1, 3);
            }
            case "tree" -> x.tree(1, 0);
            case "one row fewer" -> {
                x.medoids(1, 1, 2);
                x.means(0, 6);
                x.tree(2, 0);
            }
            case "full" -> {
                x.tree(3, 0);
                x.cut(0, 30);
                x.medoids(1, 0, 3);
            }
            default -> { }
        }
        return x;
    }

    private static final int[] SLOT = {LEAST, -1, 0, 1, 2, MOST};
    private static final int[] SIDE = SLOT;
    private static final int[] KIND = {LEAST, -1, 0, 1, 2, 3, MOST};
    private static final int[] ROW = {LEAST, -1, 0, 1, 3, 4, 5, 28, 29, 30, MOST};
    private static final int[] GROUP = {LEAST, -1, 0, 1, 2, 3, 5, 6, 29, 30, MOST};
    private static final int[] NUMBER = {LEAST, -1001, -1000, 1000, 1001, MOST};
    private static final int[] WHAT = {LEAST, -1, 0, 1, 2, 3, 4, 5, MOST};

    /** The calls, each with the numbers that are tried for each of its parameters. */
    private static final Map<String, int[][]> CALLS = new LinkedHashMap<>();

    static {
        CALLS.put("columns", new int[][] {{LEAST, -1, 0, 1, 2, 3, 4, 5, MOST}});
        CALLS.put("row", new int[][] {NUMBER, NUMBER, NUMBER, NUMBER});
        CALLS.put("clear", new int[][] {});
        CALLS.put("count", new int[][] {WHAT});
        CALLS.put("distance", new int[][] {KIND, ROW, ROW});
        CALLS.put("near", new int[][] {KIND, ROW, ROW});
        CALLS.put("means", new int[][] {SLOT, {LEAST, -1, 0, 1, 2, 3, 4, 5, 6, 7, MOST}});
        CALLS.put("medoids", new int[][] {SLOT, KIND, {LEAST, -1, 0, 1, 2, 3, 4, MOST}});
        CALLS.put("medoid", new int[][] {{LEAST, -1, 0, 1, 2, 3, MOST}});
        CALLS.put("density", new int[][] {SLOT, KIND, {LEAST, -1, 0, 20000000, 20000001, MOST}, {LEAST, -1, 0, 1, 30, 31, MOST}});
        CALLS.put("tree", new int[][] {{LEAST, -1, 0, 1, 2, 3, 4, MOST}, KIND});
        CALLS.put("join", new int[][] {ROW, WHAT});
        CALLS.put("cut", new int[][] {SLOT, {LEAST, -1, 0, 1, 3, 4, 5, 6, 29, 30, 31, MOST}});
        CALLS.put("of", new int[][] {SLOT, ROW});
        CALLS.put("size", new int[][] {SLOT, GROUP});
        CALLS.put("mean", new int[][] {SLOT, GROUP, {LEAST, -1, 0, 1, 2, 3, 4, MOST}, SIDE});
        CALLS.put("sum", new int[][] {SLOT, SIDE});
        CALLS.put("well", new int[][] {SLOT, KIND, ROW, SIDE});
        CALLS.put("agree", new int[][] {{LEAST, -1, 0, 1, 2, 3, 4, MOST}});
    }

    private static final Set<String> CHANGING = Set.of("columns", "row", "clear", "means", "medoids", "density", "tree", "cut");

    private static long call(NearGroups x, String name, int[] p) {
        return switch (name) {
            case "columns" -> x.columns(p[0]);
            case "row" -> x.row(p[0], p[1], p[2], p[3]);
            case "clear" -> x.clear();
            case "count" -> x.count(p[0]);
            case "distance" -> x.distance(p[0], p[1], p[2]);
            case "near" -> x.near(p[0], p[1], p[2]);
            case "means" -> x.means(p[0], p[1]);
            case "medoids" -> x.medoids(p[0], p[1], p[2]);
            case "medoid" -> x.medoid(p[0]);
            case "density" -> x.density(p[0], p[1], p[2], p[3]);
            case "tree" -> x.tree(p[0], p[1]);
            case "join" -> x.join(p[0], p[1]);
            case "cut" -> x.cut(p[0], p[1]);
            case "of" -> x.of(p[0], p[1]);
            case "size" -> x.size(p[0], p[1]);
            case "mean" -> x.mean(p[0], p[1], p[2], p[3]);
            case "sum" -> x.sum(p[0], p[1]);
            case "well" -> x.well(p[0], p[1], p[2], p[3]);
            default -> x.agree(p[0]);
        };
    }

    private static boolean not(int number, int least, int greatest) {
        return number < least || number > greatest;
    }

    private static boolean noSlot(int slot) {
        return not(slot, 0, 1);
    }

    private static boolean noKind(int kind) {
        return not(kind, 0, 2);
    }

    private static boolean noSide(int side) {
        return not(side, 0, 1);
    }

    /** The first refusal that fits, in the document's order; 0 if none does. */
    private static int refusal(Scene s, String name, int[] p) {
        return switch (name) {
            case "columns" -> not(p[0], 1, 4) ? OUTSIDE : s.rows > 0 ? STATE : 0;
            case "row" -> anyOutside(s, p) ? OUTSIDE : s.rows == 30 ? ROOM : 0;
            case "count" -> not(p[0], 0, 4) ? OUTSIDE : 0;
            case "distance" -> noRow(s, p[1]) || noRow(s, p[2]) ? UNKNOWN : noKind(p[0]) ? OUTSIDE : 0;
            case "near" -> noRow(s, p[1]) ? UNKNOWN : noKind(p[0]) ? OUTSIDE : 0;
            case "means" -> noSlot(p[0]) || not(p[1], 1, 6) ? OUTSIDE : s.rows < p[1] ? STATE : 0;
            case "medoids" -> noSlot(p[0]) || noKind(p[1]) || not(p[2], 1, 3) ? OUTSIDE : s.rows < p[2] ? STATE : 0;
            case "density" -> noSlot(p[0]) || noKind(p[1]) || not(p[2], 0, 20000000) || not(p[3], 1, 30) ? OUTSIDE : s.rows == 0 ? STATE : 0;
            case "tree" -> not(p[0], 0, 3) || noKind(p[1]) ? OUTSIDE : s.rows == 0 ? STATE : 0;
            case "join" -> not(p[1], 0, 4) ? OUTSIDE : s.joins < 0 ? STATE : 0;
            case "cut" -> noSlot(p[0]) || not(p[1], 1, 30) ? OUTSIDE : s.joins < 0 || s.rows < p[1] ? STATE : 0;
            case "of" -> noRow(s, p[1]) ? UNKNOWN : noSlot(p[0]) ? OUTSIDE : s.groups(p[0]) < 0 ? STATE : 0;
            case "size" -> noSlot(p[0]) ? OUTSIDE : s.groups(p[0]) < 0 ? STATE : noGroup(s, p[0], p[1]) ? UNKNOWN : 0;
            case "mean" -> noSlot(p[0]) ? OUTSIDE : s.groups(p[0]) < 0 ? STATE : noGroup(s, p[0], p[1]) ? UNKNOWN
                    : not(p[2], 0, s.columns - 1) || noSide(p[3]) ? OUTSIDE : 0;
            case "sum" -> noSlot(p[0]) || noSide(p[1]) ? OUTSIDE : s.groups(p[0]) < 0 ? STATE : 0;
            case "well" -> noRow(s, p[2]) ? UNKNOWN : noSlot(p[0]) || noKind(p[1]) || noSide(p[3]) ? OUTSIDE
                    : s.groups(p[0]) < 0 || s.none(p[0]).contains(p[2]) ? STATE : 0;
            case "agree" -> not(p[0], 0, 3) ? OUTSIDE : s.groups0 < 0 || s.groups1 < 0 ? STATE : 0;
            default -> 0;
        };
    }

    private static boolean anyOutside(Scene s, int[] p) {
        for (int c = 0; c < s.columns; c++) if (not(p[c], -1000, 1000)) return true;
        return false;
    }

    private static boolean noRow(Scene s, int i) {
        return not(i, 0, s.rows - 1);
    }

    private static boolean noGroup(Scene s, int slot, int g) {
        return not(g, 0, s.groups(slot) - 1);
    }

    public static void main(String[] args) {
        for (Scene scene : SCENES) {
            checkFacts(scene);
            for (String name : CALLS.keySet()) checkCall(scene, name);
        }
        checkAllSeen();
        System.out.println(wrong == 0 ? calls + " calls are refused or not as due" : wrong + " things are not as due");
        if (wrong != 0) System.exit(1);
    }

    private static void wrong(String what) {
        wrong++;
        if (wrong <= 30) System.out.println(what);
    }

    private static void checkFacts(Scene s) {
        NearGroups x = make(s);
        int[] facts = {s.rows, s.columns, s.groups0, s.groups1, s.joins};
        for (int what = 0; what < 5; what++) if (x.count(what) != facts[what]) wrong(s.name + ": count(" + what + ") answered " + x.count(what));
        for (int slot = 0; slot < 2; slot++) {
            for (int r = 0; r < s.rows && s.groups(slot) >= 0; r++) {
                if ((x.of(slot, r) == NearGroups.NONE) != s.none(slot).contains(r)) wrong(s.name + ": of(" + slot + ", " + r + ") answered " + x.of(slot, r));
            }
        }
    }

    private static void checkCall(Scene scene, String name) {
        List<int[]> unchanging = new ArrayList<>();
        for (int[] p : mixtures(CALLS.get(name))) {
            int due = refusal(scene, name, p);
            if (due != 0) seen.add(name + " " + due);
            if (due == 0 && CHANGING.contains(name)) checkChange(scene, name, p);
            else unchanging.add(p);
        }
        for (int from = 0; from < unchanging.size(); from += BATCH) {
            checkBatch(scene, name, unchanging.subList(from, Math.min(unchanging.size(), from + BATCH)));
        }
    }

    private static List<int[]> mixtures(int[][] values) {
        List<int[]> all = new ArrayList<>(List.of(new int[values.length]));
        for (int place = 0; place < values.length; place++) {
            List<int[]> longer = new ArrayList<>();
            for (int[] p : all) {
                for (int value : values[place]) {
                    int[] q = p.clone();
                    q[place] = value;
                    longer.add(q);
                }
            }
            all = longer;
        }
        return all;
    }

    private static String told(Scene scene, String name, int[] p) {
        return scene.name + ": " + name + java.util.Arrays.toString(p);
    }

    private static void checkAnswer(Scene scene, String name, int[] p, long got) {
        calls++;
        int due = refusal(scene, name, p);
        if (due != 0 && got != due) wrong(told(scene, name, p) + " answered " + got + ", due is " + due);
        if (due == 0 && got <= UNKNOWN) wrong(told(scene, name, p) + " answered " + got + ", which is no refusal that fits");
    }

    private static void checkBatch(Scene scene, String name, List<int[]> batch) {
        NearGroups x = make(scene);
        for (int[] p : batch) checkAnswer(scene, name, p, call(x, name, p));
        if (picture(x).equals(picture(make(scene)))) return;
        for (int[] p : batch) {
            NearGroups y = make(scene);
            call(y, name, p);
            if (!picture(y).equals(picture(make(scene)))) wrong(told(scene, name, p) + " changes something");
        }
        wrong(scene.name + ": " + batch.size() + " calls of " + name + " change something");
    }

    private static void checkChange(Scene scene, String name, int[] p) {
        NearGroups x = make(scene);
        checkAnswer(scene, name, p, call(x, name, p));
        Map<String, String> before = picture(make(scene));
        Map<String, String> after = picture(x);
        for (String part : before.keySet()) {
            if (stays(name, p, part) && !before.get(part).equals(after.get(part))) wrong(told(scene, name, p) + " changes the " + part);
        }
    }

    /** Whether such a call has to leave that part of the picture as it is. */
    private static boolean stays(String name, int[] p, String part) {
        return switch (name) {
            case "columns" -> !part.equals("columns");
            case "row", "clear" -> part.equals("columns");
            case "means", "density", "cut" -> !part.equals("slot " + p[0]);
            case "medoids" -> !part.equals("slot " + p[0]) && !part.equals("best rows");
            default -> !part.equals("tree");
        };
    }

    private static Map<String, String> picture(NearGroups x) {
        Map<String, String> parts = new LinkedHashMap<>();
        int rows = x.count(0);
        StringBuilder text = new StringBuilder();
        for (int r = 0; r < rows; r++) text.append(x.distance(0, 0, r)).append(' ').append(x.distance(1, rows - 1, r)).append(' ');
        parts.put("rows", rows + ": " + text);
        parts.put("columns", "" + x.count(1));
        for (int slot = 0; slot < 2; slot++) parts.put("slot " + slot, pictureOfSlot(x, slot, rows));
        parts.put("best rows", x.medoid(0) + " " + x.medoid(1) + " " + x.medoid(2));
        text = new StringBuilder();
        for (int i = 0; i < x.count(4); i++) for (int what = 0; what < 5; what++) text.append(x.join(i, what)).append(' ');
        parts.put("tree", x.count(4) + ": " + text);
        return parts;
    }

    private static String pictureOfSlot(NearGroups x, int slot, int rows) {
        StringBuilder text = new StringBuilder();
        int groups = x.count(2 + slot);
        text.append(groups).append(": ");
        if (groups < 0) return text.toString();
        for (int r = 0; r < rows; r++) text.append(x.of(slot, r)).append(' ');
        text.append(x.sum(slot, 0)).append('/').append(x.sum(slot, 1));
        for (int g = 0; g < Math.min(6, groups); g++) text.append(' ').append(x.mean(slot, g, 0, 0)).append('/').append(x.mean(slot, g, 0, 1));
        return text.toString();
    }

    /** Each refusal that the document names for a call has come up. */
    private static void checkAllSeen() {
        Set<String> named = new TreeSet<>();
        name(named, UNKNOWN, "distance", "near", "of", "size", "mean", "well");
        name(named, OUTSIDE, "columns", "row", "count", "distance", "near", "means", "medoids", "density", "tree", "join", "cut", "of", "size", "mean", "sum", "well", "agree");
        name(named, STATE, "columns", "means", "medoids", "density", "tree", "join", "cut", "of", "size", "mean", "sum", "well", "agree");
        name(named, ROOM, "row");
        if (!named.equals(seen)) wrong("the refusals that came up are " + seen);
    }

    private static void name(Set<String> named, int refusal, String... calls) {
        for (String call : calls) named.add(call + " " + refusal);
    }
}
