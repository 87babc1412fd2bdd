/**
 * Every number that a call takes, promise by promise: the least and the most that it may be are taken, what is just
 * outside, or far, is refused by the answer that the document names.
 */
public final class RangesTest extends Due {
    /** One call, its arguments in a row. */
    private interface Call {
        int on(CloudStrings x, int... a);
    }

    /** How a land is made on which the call is tried. */
    private interface Setting {
        CloudStrings make();
    }

    private static String name;
    private static Call call;
    private static Setting setting;
    private static int[] good;

    public static void main(String[] args) {
        clouds();
        stringsAndWater();
        tapeAndCounts();
        hours();
        plans();
        sheets();
        nothingThere();
        end();
    }

    private static void start(int itsPromise, String itsName, Setting itsSetting, Call itsCall, int... itsGood) {
        promise = itsPromise;
        name = itsName;
        setting = itsSetting;
        call = itsCall;
        good = itsGood;
    }

    private static int with(int place, int v) {
        int[] a = good.clone();
        a[place] = v;
        return call.on(setting.make(), a);
    }

    /** An argument that may be least .. most; below and above answer so. */
    private static void range(int place, int least, int most, int below, int above) {
        String told = name + ", argument " + place + " is ";
        for (int v = least; v <= most; v++) {
            int answer = with(place, v);
            due(told + v + ": taken", false, answer == below || answer == above);
        }
        due(told + (least - 1), below, with(place, least - 1));
        due(told + (least - 2), below, with(place, least - 2));
        due(told + "far below", below, with(place, Integer.MIN_VALUE));
        due(told + (most + 1), above, with(place, most + 1));
        due(told + (most + 2), above, with(place, most + 2));
        due(told + "far above", above, with(place, Integer.MAX_VALUE));
    }

    private static void range(int place, int least, int most) {
        range(place, least, most, BAD, BAD);
    }

    private static CloudStrings twoOfEach() {
        CloudStrings x = windy("r1");
        x.village(12, 5, 9);
        x.village(3, 4, 9);
        x.cloud(WHITE, 12, 999);
        x.cloud(THUNDER, 12, 999);
        x.sheet(1, SHORTS, 7);
        return x;
    }

    private static CloudStrings allOfEach() {
        CloudStrings x = twoOfEach();
        x.village(20, 3, 0);
        x.village(24, 2, 0);
        for (int cloud = 2; cloud < 6; cloud++) {
            x.cloud(SMALL, 12, 50);
        }
        for (int sheet = 0; sheet < 4; sheet++) {
            x.sheet(sheet, SHORTS, 7);
        }
        return x;
    }

    private static void clouds() {
        start(2, "cloud", RangesTest::twoOfEach, (x, a) -> x.cloud(a[0], a[1], a[2]), 0, 0, 1);
        range(0, 0, 3);
        range(1, 0, 24);
        range(2, 1, 999);
        start(3, "village", RangesTest::twoOfEach, (x, a) -> x.village(a[0], a[1], a[2]), 0, 0, 0);
        range(0, 0, 24);
        range(1, 0, 9);
        range(2, 0, 99);
        start(4, "told", RangesTest::twoOfEach, (x, a) -> x.told(a[0], a[1]), 0, 0);
        range(0, 0, 1);
        range(1, 0, 3);
        setting = RangesTest::allOfEach;
        range(0, 0, 5);
        start(5, "of", RangesTest::twoOfEach, (x, a) -> x.of(a[0], a[1]), 0, 0);
        range(0, 0, 1);
        range(1, 0, 4);
        setting = RangesTest::allOfEach;
        range(0, 0, 3);
        start(6, "set", RangesTest::twoOfEach, (x, a) -> x.set(a[0], a[1], a[2]), 0, 0, 5);
        range(0, 0, 1);
        range(1, 0, 1);
        range(2, 0, 9);
        good = new int[] {0, 1, 5};
        range(2, 0, 99);
        setting = RangesTest::allOfEach;
        range(0, 0, 3);
    }

    private static void stringsAndWater() {
        start(7, "hold", RangesTest::twoOfEach, (x, a) -> x.hold(a[0], a[1], a[2]), 0, 0, 1);
        range(0, 0, 1);
        range(1, 0, 1);
        range(2, 0, 9);
        setting = RangesTest::allOfEach;
        range(0, 0, 3);
        range(1, 0, 5);
        start(8, "holds", RangesTest::twoOfEach, (x, a) -> x.holds(a[0], a[1]), 0, 0);
        range(0, 0, 1);
        range(1, 0, 1);
        setting = RangesTest::allOfEach;
        range(0, 0, 3);
        range(1, 0, 5);
        start(9, "join", RangesTest::allOfEach, (x, a) -> x.join(a[0], a[1]), 5, 0);
        range(1, 0, 4);
        good = new int[] {0, 5};
        range(0, 0, 4);
        range(1, 1, 5);
        good = new int[] {5, 0};
        range(0, 1, 5);
        start(10, "split", RangesTest::twoOfEach, (x, a) -> x.split(a[0], a[1]), 0, 1);
        range(0, 0, 1);
        range(1, 1, 999);
        setting = RangesTest::allOfEach;
        range(0, 0, 5);
        start(11, "salt", RangesTest::twoOfEach, (x, a) -> x.salt(a[0]), 0);
        range(0, 0, 1);
        setting = RangesTest::allOfEach;
        range(0, 0, 5);
    }

    private static void tapeAndCounts() {
        start(12, "type, bytes", RangesTest::twoOfEach, (x, a) -> x.type(0x7575757575757575L, a[0]), 1);
        range(0, 1, 8);
        for (int place = 0; place < 8; place++) {
            for (int sign = 0; sign < 256; sign++) {
                long w = 0x2020202020202020L & ~(255L << 8 * place) | (long) sign << 8 * place;
                boolean isTaken = sign >= 32 && sign <= 126;
                due("byte " + sign + " in place " + place, isTaken ? 8 : BAD, new CloudStrings().type(w, 8));
                due("it is above the others", place == 0 ? BAD : place, new CloudStrings().type(w, place));
            }
        }
        start(14, "fallen", RangesTest::twoOfEach, (x, a) -> x.fallen(a[0]), 0);
        range(0, 0, 24);
        start(15, "count", RangesTest::twoOfEach, (x, a) -> x.count(a[0]), 0);
        range(0, 0, 7);
    }

    private static void hours() {
        start(16, "pass", RangesTest::twoOfEach, (x, a) -> x.pass(a[0]), 1);
        range(0, 1, 60);
        start(17, "drawn", RangesTest::twoOfEach, (x, a) -> x.drawn(a[0]), 1);
        range(0, 1, 60);
        promise = 18;
        CloudStrings x = new CloudStrings();
        int[] taken = {1, 0, 1, 2, 65535, 65536, 1 << 30, Integer.MAX_VALUE - 1, Integer.MAX_VALUE};
        for (int i = 1; i < taken.length; i++) {
            due("seed " + taken[i] + ": what it was", taken[i - 1], x.seed(taken[i]));
        }
        due("seed -1", BAD, x.seed(-1));
        due("seed -2", BAD, x.seed(-2));
        due("seed far below", BAD, x.seed(Integer.MIN_VALUE));
        due("refused", Integer.MAX_VALUE, x.seed(0));
        start(19, "wet", RangesTest::twoOfEach, (y, a) -> y.wet(a[0], a[1]), 0, 1);
        range(0, 0, 1);
        range(1, 1, 24);
        setting = RangesTest::allOfEach;
        range(0, 0, 3);
        start(20, "where", RangesTest::twoOfEach, (y, a) -> y.where(a[0], a[1], a[2]), 0, 1, 0);
        range(0, 0, 1);
        range(1, 1, 24);
        range(2, 0, 1);
        setting = RangesTest::allOfEach;
        range(0, 0, 5);
    }

    private static void plans() {
        start(21, "fewest", RangesTest::twoOfEach, (x, a) -> x.fewest(a[0], a[1], a[2]), 0, 1, 0);
        range(0, 0, 1);
        range(1, 1, 12);
        range(2, -1, 5);
        setting = RangesTest::allOfEach;
        range(0, 0, 3);
        start(22, "tug", RangesTest::twoOfEach, (x, a) -> x.tug(a[0], a[1], a[2], a[3]), 0, 1, 1, 0);
        range(2, 1, 12);
        range(3, 0, 1);
        range(0, 0, 0);
        range(1, 1, 1);
        setting = RangesTest::allOfEach;
        good = new int[] {3, 0, 1, 0};
        range(0, 1, 3);
        range(1, 0, 2);
        good = new int[] {0, 3, 1, 0};
        range(0, 0, 2);
        range(1, 1, 3);
        start(25, "held", RangesTest::allOfEach, (x, a) -> x.held(a[0], a[1], a[2], a[3], a[4]), 1, 1, 1, 0, -1);
        range(0, 1, 12);
        range(1, 0, 3);
        range(2, 0, 2);
        range(3, 0, 3, INDEX, INDEX);
        range(4, -1, 3);
        setting = RangesTest::twoOfEach;
        range(3, 0, 5, INDEX, INDEX);
        range(4, -1, 3);
    }

    private static void sheets() {
        start(26, "film", RangesTest::allOfEach, (x, a) -> x.film(a[0], a[1], a[2], a[3]), 0, 1, 1, 0);
        range(0, 0, 4);
        range(1, 0, 3);
        range(2, 0, 2);
        range(3, 0, 2, INDEX, INDEX);
        start(27, "sheet", RangesTest::twoOfEach, (x, a) -> x.sheet(a[0], a[1], a[2]), 0, 0, 0);
        range(0, 0, 3);
        range(1, 0, 2);
        range(2, 0, 25, SIZE, BAD);
        start(28, "drop", RangesTest::twoOfEach, (x, a) -> x.drop(a[0]), 0);
        range(0, 0, 3);
        start(29, "item", RangesTest::allOfEach, (x, a) -> x.item(a[0], a[1], a[2], 5), 1, 1, 0);
        range(0, 0, 3);
        range(1, 0, 2);
        range(2, 0, 6, INDEX, INDEX);
        start(30, "copy", RangesTest::allOfEach, (x, a) -> x.copy(a[0], a[1], a[2], a[3], a[4]), 0, 3, 1, 2, 4);
        range(0, 0, 3);
        range(1, 0, 3, INDEX, INDEX);
        range(2, 0, 3);
        range(3, 0, 3, INDEX, INDEX);
        range(4, 0, 4, INDEX, INDEX);
        good = new int[] {2, 2, 2, 3, 0};
        range(1, 0, 7, INDEX, INDEX);
        range(3, 0, 7, INDEX, INDEX);
        good = new int[] {2, 0, 2, 0, 7};
        range(4, 0, 7, INDEX, INDEX);
    }

    /** There is no such thing as long as none has come. */
    private static void nothingThere() {
        CloudStrings x = new CloudStrings();
        int[][] bad = {
            {4, x.told(0, 0)}, {5, x.of(0, 0)}, {6, x.set(0, 0, 0)}, {7, x.hold(0, 0, 0)}, {8, x.holds(0, 0)},
            {9, x.join(0, 1)}, {10, x.split(0, 1)}, {11, x.salt(0)}, {19, x.wet(0, 1)}, {20, x.where(0, 1, 0)},
            {21, x.fewest(0, 1, -1)}, {22, x.tug(0, 1, 1, 0)}};
        for (int[] b : bad) {
            promise = b[0];
            due("there is none", BAD, b[1]);
        }
        x.village(0, 9, 0);
        promise = 7;
        due("no cloud", BAD, x.hold(0, 0, 0));
        promise = 8;
        due("no cloud", BAD, x.holds(0, 0));
        promise = 22;
        due("no second village", BAD, x.tug(0, 1, 1, 0));
        due("no first village", BAD, x.tug(1, 0, 1, 0));
        promise = 9;
        x.cloud(WHITE, 0, 5);
        due("no second cloud", BAD, x.join(0, 1));
        due("no first cloud", BAD, x.join(1, 0));
    }
}
