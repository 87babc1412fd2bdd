/**
 * What is foretold comes true, by the program itself: on lands that are made up, wet and where are asked, then the hours
 * go by; the row of FEWEST, the pair of A TUG, the row of HELD are laid by hold, then the hours go by.
 */
public final class ForetoldTest extends Due {
    private static final int LANDS = 1500;
    private static long random;
    private static int clouds;
    private static int villages;
    private static int plans;

    public static void main(String[] args) {
        for (int land = 0; land < LANDS; land++) {
            random = 104729L * land + 5;
            CloudStrings x = made();
            int n = 1 + below(12);
            hoursComeTrue(x, n + below(13));
            fewestComesTrue(x, n);
            if (villages > 1) {
                tugComesTrue(x, n);
            }
            heldComesTrue(x, n);
        }
        due("plans were tried", true, plans > LANDS);
        end();
    }

    private static int below(int n) {
        random = random * 6364136223846793005L + 1442695040888963407L;
        return (int) ((random >>> 33) % n);
    }

    private static CloudStrings made() {
        CloudStrings x = new CloudStrings();
        villages = 1 + below(4);
        clouds = 1 + below(4);
        for (int v = 0; v < villages; v++) {
            x.village(5 * below(5) + v, 1 + below(9), 1 + below(16));
        }
        for (int c = 0; c < clouds; c++) {
            x.cloud(below(4), below(25), 1 + below(50));
        }
        for (int i = 0; i < 4; i++) {
            x.hold(below(villages), below(clouds), 1 + below(4));
        }
        StringBuilder text = new StringBuilder();
        int size = 1 + below(5);
        for (int i = 0; i < size; i++) {
            text.append(i == 0 ? "" : ",").append("ulrd".charAt(below(4))).append(below(4));
        }
        due("winds", size, winds(x, text.toString()));
        x.pass(1 + below(3));
        x.image();
        return x;
    }

    private static boolean isAway(CloudStrings x, int cloud) {
        return x.told(cloud, 1) == AWAY;
    }

    private static void hoursComeTrue(CloudStrings x, int n) {
        int[] wet = new int[villages];
        int[] where = new int[clouds];
        for (int v = 0; v < villages; v++) {
            wet[v] = x.wet(v, n);
        }
        for (int c = 0; c < clouds; c++) {
            where[c] = x.where(c, n, 0);
        }
        int let = below(clouds);
        int letGo = x.where(let, n, 1);
        x.pass(n);
        says(19, "How WET a VILLAGE will be n HOURS from now");
        for (int v = 0; v < villages; v++) {
            due("village " + v + " in " + n, wet[v], x.of(v, 3));
        }
        says(20, "Where a CLOUD will be n HOURS from now");
        for (int c = 0; c < clouds; c++) {
            due("cloud " + c + " in " + n, where[c], x.told(c, 1));
        }
        x.restore();
        for (int v = 0; v < villages; v++) {
            x.hold(v, let, 0);
        }
        x.pass(n);
        says(20, "if nobody HOLDS it any more (let 1)");
        due("cloud " + let + " in " + n, letGo, x.told(let, 1));
        x.restore();
    }

    private static void fewestComesTrue(CloudStrings x, int n) {
        says(21, "be WET by its THIRST or more behind these HOURS");
        int village = below(villages);
        int fewest = x.fewest(village, n, -1);
        int[] row = new int[clouds];
        int sum = 0;
        for (int c = 0; c < clouds && fewest >= 0; c++) {
            row[c] = x.fewest(village, n, c);
            sum += row[c];
        }
        if (fewest < 0) {
            layOn(x, village, below(clouds));
            due("not by all it has", true, x.wet(village, n) < x.of(village, 2));
            x.restore();
            return;
        }
        plans++;
        due("the row has so many", fewest, sum);
        layRow(x, village, row);
        due("enough", true, x.wet(village, n) >= x.of(village, 2));
        for (int c = 0; c < clouds; c++) {
            if (row[c] > 0) {
                x.hold(village, c, row[c] - 1);
                due("one less is not enough", true, x.wet(village, n) < x.of(village, 2));
                x.hold(village, c, row[c]);
            }
        }
        x.pass(n);
        due("enough, in the end", true, x.of(village, 3) >= x.of(village, 2));
        x.restore();
    }

    private static void layRow(CloudStrings x, int village, int[] row) {
        layOn(x, village, 6);
        for (int c = 0; c < clouds; c++) {
            if (row[c] > 0) {
                due("it can hold so", 0, x.hold(village, c, row[c]));
            }
        }
    }

    /** All its string on one cloud, or on none. */
    private static void layOn(CloudStrings x, int village, int cloud) {
        for (int c = 0; c < clouds; c++) {
            if (!isAway(x, c)) {
                x.hold(village, c, 0);
            }
        }
        if (cloud < clouds && !isAway(x, cloud)) {
            x.hold(village, cloud, x.of(village, 1));
        }
    }

    private static void tugComesTrue(CloudStrings x, int n) {
        says(22, "pairs by which neither would be WETTER behind these HOURS by another one of its own");
        int a = below(villages);
        int b = (a + 1 + below(villages - 1)) % villages;
        int pair = x.tug(a, b, n, 1);
        due("there is one, if there are some", pair >= 0, x.tug(a, b, n, 0) > 0);
        if (pair < 0) {
            return;
        }
        plans++;
        layOn(x, a, pair / 10);
        layOn(x, b, pair % 10);
        int wetA = x.wet(a, n);
        int wetB = x.wet(b, n);
        for (int other = 0; other <= clouds; other++) {
            layOn(x, a, other);
            due("the first by " + other, true, x.wet(a, n) <= wetA);
        }
        layOn(x, a, pair / 10);
        for (int other = 0; other <= clouds; other++) {
            layOn(x, b, other);
            due("the second by " + other, true, x.wet(b, n) <= wetB);
        }
        x.restore();
    }

    private static void heldComesTrue(CloudStrings x, int n) {
        says(25, "rows in which each VILLAGE lays all its STRING on one CLOUD, by which it would be so");
        int[] row = new int[villages];
        for (int v = 0; v < villages; v++) {
            row[v] = below(clouds + 1);
            layOn(x, v, row[v]);
        }
        int[] wet = new int[villages];
        x.sheet(2, INTS, villages + 3);
        for (int v = 0; v < villages; v++) {
            wet[v] = x.wet(v, n);
            x.item(2, INTS, 2 + v, wet[v]);
        }
        x.restore();
        int rows = x.held(n, 2, INTS, 2, -1);
        due("one row at least", true, rows >= 1);
        boolean isAhead = false;
        for (int v = 0; v < villages; v++) {
            int first = x.held(n, 2, INTS, 2, v);
            boolean isNone = row[v] == clouds || isAway(x, row[v]);
            int laid = isNone ? 6 : row[v];
            due("the first row is not behind the one that is so", true, isAhead || first <= laid);
            isAhead |= first < laid;
            row[v] = first;
        }
        for (int v = 0; v < villages; v++) {
            layOn(x, v, row[v]);
        }
        x.pass(n);
        for (int v = 0; v < villages; v++) {
            due("as wet as told, village " + v, wet[v], x.of(v, 3));
        }
        plans++;
        x.restore();
    }
}
