/** Promises 21 to 24: fewest, tug, image, restore. What is due was worked out by hand from the document. */
public final class StringsTest extends Due {
    public static void main(String[] args) {
        promise = 21;
        fewest();
        fewestFirstRow();
        fewestOfAll();
        promise = 22;
        tug();
        tugWithoutPairs();
        promise = 23;
        image();
        promise = 24;
        restore();
        end();
    }

    private static void rowIs(String when, CloudStrings x, int village, int n, int... row) {
        int sum = 0;
        for (int i = 0; i < 6; i++) {
            due("fewest on " + i + ", " + when, row[i], x.fewest(village, n, i));
            sum += row[i];
        }
        due("fewest, " + when, sum, x.fewest(village, n, -1));
    }

    private static void fewest() {
        CloudStrings x = windy("r2");
        x.village(10, 4, 4);
        x.village(14, 3, 0);
        x.cloud(WHITE, 12, 99);
        x.hold(1, 0, 1);
        x.hold(0, 0, 1);
        due("hour 1: 3 are needed against 1 and 2, it comes in hour 2", NONE, x.fewest(0, 2, -1));
        due("there is no row either", NONE, x.fewest(0, 2, 5));
        rowIs("3 hours rain twice", x, 0, 3, 3, 0, 0, 0, 0, 0);
        due("what it holds now is as it was", 1, x.holds(0, 0));
        x.set(0, 0, 3);
        rowIs("just as many as it has", x, 0, 3, 3, 0, 0, 0, 0, 0);
        x.set(0, 0, 2);
        due("not by all it has", NONE, x.fewest(0, 3, -1));
        x.set(0, 1, 0);
        rowIs("no thirst", x, 0, 1, 0, 0, 0, 0, 0, 0);
        due("0 hours", BAD, x.fewest(0, 0, 0));
        due("13 hours", BAD, x.fewest(0, 13, 0));
        due("cloud 6", BAD, x.fewest(0, 1, 6));
        due("cloud -2", BAD, x.fewest(0, 1, -2));
        due("no such village", BAD, x.fewest(2, 1, 0));
        for (int wrong : WRONG) {
            due("village " + wrong, BAD, x.fewest(wrong, 1, 0));
            due(wrong + " hours", BAD, x.fewest(0, wrong, 0));
            due("cloud " + wrong, wrong == -1 ? 0 : BAD, x.fewest(0, 1, wrong));
        }
    }

    private static void fewestFirstRow() {
        CloudStrings x = windy("l1");
        x.village(12, 9, 8);
        x.cloud(WHITE, 12, 99);
        x.cloud(SALT, 12, 99);
        x.cloud(WHITE, 13, 99);
        x.cloud(WHITE, 12, 99);
        x.cloud(WHITE, 12, 1);
        // each that is held by 1 stays; the third, let alone, comes over in hour 0, so it gives 2 by none
        due("7 are the most in an hour", NONE, x.fewest(0, 1, -1));
        x.set(0, 1, 4);
        rowIs("2 by the third, 2 by the first row of those alike", x, 0, 1, 0, 0, 0, 1, 0, 0);
        x.set(0, 1, 5);
        rowIs("1 more", x, 0, 1, 0, 0, 0, 1, 1, 0);
        x.set(0, 1, 6);
        rowIs("both", x, 0, 1, 1, 0, 0, 1, 0, 0);
        x.set(0, 1, 8);
        rowIs("2 hours: all three of them", x, 0, 2, 0, 0, 1, 1, 0, 0);
        x.join(0, 3);
        rowIs("one is away", x, 0, 2, 1, 0, 1, 0, 0, 0);
        x.set(0, 1, 6);
        x.set(0, 0, 1);
        rowIs("one string is enough", x, 0, 2, 1, 0, 0, 0, 0, 0);
    }

    private static void fewestOfAll() {
        CloudStrings x = windy("r3");
        x.village(10, 9, 10);
        x.cloud(THUNDER, 10, 99);
        due("6 are needed", 6, x.fewest(0, 2, -1));
        x.pass(1);
        due("gone: not by all", NONE, x.fewest(0, 1, -1));
        CloudStrings y = new CloudStrings();
        y.village(10, 0, 4);
        y.cloud(WHITE, 10, 3);
        due("it will not have enough", NONE, y.fewest(0, 12, 0));
        y.pass(1);
        y.set(0, 1, 3);
        rowIs("wet in all, as it is now, too", y, 0, 1, 0, 0, 0, 0, 0, 0);
        y.pass(1);
        rowIs("wet by just its thirst", y, 0, 1, 0, 0, 0, 0, 0, 0);
        y.set(0, 1, 2);
        rowIs("wet by more", y, 0, 12, 0, 0, 0, 0, 0, 0);
        CloudStrings z = windy("l1");
        z.village(10, 9, 2);
        z.village(14, 9, 9);
        z.cloud(WHITE, 11, 99);
        z.hold(1, 0, 9);
        due("others hold as they do", NONE, z.fewest(0, 2, -1));
        z.hold(1, 0, 8);
        rowIs("9 against 8 and 1", z, 0, 1, 9, 0, 0, 0, 0, 0);
        CloudStrings none = new CloudStrings();
        none.village(3, 9, 1);
        due("no cloud at all", NONE, none.fewest(0, 12, -1));
        none.set(0, 1, 0);
        rowIs("no cloud, no thirst", none, 0, 12, 0, 0, 0, 0, 0, 0);
    }

    private static void tug() {
        CloudStrings x = new CloudStrings();
        x.village(10, 1, 0);
        x.village(14, 1, 0);
        x.cloud(WHITE, 11, 99);
        x.cloud(WHITE, 13, 99);
        // each is wetter by the cloud beside it, and by no other choice of its own
        due("one pair", 1, x.tug(0, 1, 1, 0));
        due("each its own", 1, x.tug(0, 1, 1, 1));
        due("the other way round", 10, x.tug(1, 0, 1, 1));
        x.hold(0, 1, 1);
        due("what holds now is let go", 1, x.tug(0, 1, 1, 1));
        due("but only as a thought", 1, x.holds(0, 1));
        x.set(0, 0, 2);
        due("the stronger one leaves the other nothing on the one it takes", 1, x.tug(0, 1, 1, 1));
        CloudStrings y = new CloudStrings();
        y.village(0, 3, 0);
        y.village(24, 3, 0);
        due("no cloud: none and none", 1, y.tug(0, 1, 12, 0));
        due("66", 66, y.tug(0, 1, 12, 1));
        y.cloud(WHITE, 12, 9);
        due("out of reach: all pairs", 4, y.tug(0, 1, 1, 0));
        due("the first of them", 0, y.tug(0, 1, 1, 1));
        due("one alike", BAD, y.tug(0, 0, 1, 0));
        due("0 hours", BAD, y.tug(0, 1, 0, 0));
        due("13 hours", BAD, y.tug(0, 1, 13, 0));
        due("what 2", BAD, y.tug(0, 1, 1, 2));
        due("no such village", BAD, y.tug(0, 2, 1, 0));
        for (int wrong : WRONG) {
            due("first " + wrong, BAD, y.tug(wrong, 0, 1, 0));
            due("second " + wrong, BAD, y.tug(0, wrong, 1, 0));
            due(wrong + " hours", BAD, y.tug(0, 1, wrong, 0));
            due("what " + wrong, BAD, y.tug(0, 1, 1, wrong));
        }
        CloudStrings z = new CloudStrings();
        z.village(10, 2, 0);
        z.village(14, 2, 0);
        z.village(2, 9, 0);
        z.cloud(WHITE, 11, 99);
        z.hold(2, 0, 3);
        due("the third village holds as it does: all pairs", 4, z.tug(0, 1, 1, 0));
        z.hold(2, 0, 2);
        // the first is wetter by the cloud, unless the second lays on it, too; the second is dry in any case
        due("all but none and none", 3, z.tug(0, 1, 1, 0));
        due("both", 0, z.tug(0, 1, 1, 1));
    }

    /**
     * The weaker one has 4 hours on the small cloud, or 2 of them on the white one, that is over the stronger one: it
     * gets 4 by the one that the stronger one leaves alone, none by the other; and the stronger one would have more by
     * just the one that the weaker one is on.
     */
    private static void tugWithoutPairs() {
        CloudStrings x = new CloudStrings();
        x.village(24, 2, 0);
        x.village(17, 4, 0);
        x.cloud(SMALL, 23, 15);
        x.cloud(WHITE, 17, 12);
        due("no pair", 0, x.tug(0, 1, 4, 0));
        due("no first one", NONE, x.tug(0, 1, 4, 1));
        due("nor the other way round", NONE, x.tug(1, 0, 4, 1));
        x.set(0, 0, 5);
        // now the first has 4 on the small one in any case: 0 and all three; or on the other one, if the second is on 0
        due("by more string there are some", 4, x.tug(0, 1, 4, 0));
        due("the first of them", 0, x.tug(0, 1, 4, 1));
    }

    private static CloudStrings keptLand() {
        CloudStrings x = windy("r1,d2,l0");
        x.village(6, 5, 50);
        x.village(18, 6, 60);
        x.cloud(WHITE, 8, 70);
        x.cloud(THUNDER, 9, 80);
        x.cloud(SMALL, 11, 90);
        x.hold(0, 0, 3);
        x.hold(1, 0, 1);
        x.seed(99);
        x.pass(1);
        return x;
    }

    private static int[] tellAll(CloudStrings x) {
        int[] all = new int[200];
        int at = 0;
        for (int cloud = 0; cloud < 6; cloud++) {
            for (int what = 0; what < 4; what++) {
                all[at++] = x.told(cloud, what);
            }
            for (int village = 0; village < 4; village++) {
                all[at++] = x.holds(village, cloud);
            }
        }
        for (int village = 0; village < 4; village++) {
            for (int what = 0; what < 5; what++) {
                all[at++] = x.of(village, what);
            }
        }
        for (int field = 0; field < 25; field++) {
            all[at++] = x.fallen(field);
        }
        for (int what = 0; what < 8; what++) {
            all[at++] = x.count(what);
        }
        int draw = x.seed(0);
        x.seed(draw);
        all[at++] = draw;
        return all;
    }

    private static void allAlike(String when, int[] want, int[] got) {
        for (int i = 0; i < want.length; i++) {
            due(when + ", place " + i, want[i], got[i]);
        }
    }

    private static void image() {
        CloudStrings x = keptLand();
        int[] then = tellAll(x);
        due("kept", 1, x.image());
        allAlike("an image changes nothing", then, tellAll(x));
        x.pass(1);
        int[] later = tellAll(x);
        due("kept anew", 1, x.image());
        x.pass(3);
        due("restored", 1, x.restore());
        allAlike("the later one", later, tellAll(x));
    }

    private static void restore() {
        CloudStrings x = keptLand();
        due("there is none", NONE, x.restore());
        int[] then = tellAll(x);
        x.image();
        changeAll(x);
        write(x, "u1,l");
        x.sheet(2, SHORTS, 3);
        due("restored", 1, x.restore());
        allAlike("as it was then", then, tellAll(x));
        due("the sheet stays", 3, x.drop(2));
        due("the tape stays", 6, write(x, "2 "));
        due("as it was", 2, x.winds());
        due("restored again", 1, x.restore());
        allAlike("as it was then, again", then, tellAll(x));
        x.pass(1);
        due("the winds and strings of then", 6, x.told(0, 1));
        due("the wind of then", 17, x.told(2, 1));
        x.restore();
        due("a new cloud", 3, x.cloud(WHITE, 20, 5));
        due("is held by nobody", 0, x.told(3, 3));
        due("a new village", 2, x.village(20, 4, 5));
        due("is dry", 0, x.of(2, 3));
        due("holds nothing", 4, x.of(2, 4));
    }

    private static void changeAll(CloudStrings x) {
        x.village(20, 9, 9);
        x.cloud(SALT, 20, 50);
        x.hold(2, 3, 9);
        x.hold(0, 0, 5);
        x.hold(1, 1, 5);
        x.set(0, 1, 1);
        x.set(1, 0, 9);
        x.salt(2);
        winds(x, "d1,d1,d1,d1");
        x.pass(4);
        x.drawn(3);
    }
}
