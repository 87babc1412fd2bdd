import java.util.ArrayList;
import java.util.List;

/**
 * "What is refused changes nothing": two lands are made alike, one of them is asked what it has to refuse, and all that
 * can be told of the two is compared. "Of several the first that a call names": calls that could be refused for more
 * reasons than one.
 */
public final class RefusedTest extends Due {
    /** One call that is refused. */
    private interface Call {
        int on(CloudStrings x);
    }

    private static final int[] LENGTHS = {5, 4, 6};

    public static void main(String[] args) {
        refusedClouds();
        refusedVillages();
        refusedByHours();
        refusedSheets();
        orderOfClouds();
        orderOfPlans();
        orderOfSheets();
        end();
    }

    /** Hour 9960; 6 clouds, 2 of them away; 4 villages; winds, a tape of 45, sheets 0 to 2; an image of no land. */
    private static CloudStrings land() {
        CloudStrings x = new CloudStrings();
        for (int i = 0; i < 166; i++) {
            x.pass(60);
        }
        x.image();
        x.village(12, 6, 40);
        x.village(3, 5, 7);
        x.village(20, 9, 0);
        x.village(24, 2, 99);
        x.cloud(WHITE, 12, 70);
        x.cloud(THUNDER, 2, 60);
        x.cloud(SMALL, 12, 50);
        x.cloud(SALT, 12, 2);
        x.cloud(WHITE, 0, 30);
        x.cloud(THUNDER, 8, 999);
        x.hold(0, 0, 3);
        x.hold(1, 0, 1);
        x.hold(2, 5, 4);
        x.hold(3, 3, 2);
        x.seed(4711);
        winds(x, "l1,d1");
        x.join(0, 2);
        x.pass(2);
        for (int sheet = 0; sheet < 3; sheet++) {
            x.sheet(sheet, sheet, LENGTHS[sheet]);
            for (int i = 0; i < LENGTHS[sheet]; i++) {
                x.item(sheet, sheet, i, (sheet + i) % 4);
            }
        }
        write(x, "u1,l2,r3,d0,u1,l2,r3,d0,u1,l2,r3,d0          ");
        return x;
    }

    private static List<Integer> tellAll(CloudStrings x) {
        List<Integer> all = new ArrayList<>();
        for (int what = 0; what < 8; what++) {
            all.add(x.count(what));
        }
        for (int cloud = 0; cloud < 6; cloud++) {
            for (int what = 0; what < 4; what++) {
                all.add(x.told(cloud, what));
                all.add(x.holds(what, cloud));
            }
        }
        for (int village = 0; village < 4; village++) {
            for (int what = 0; what < 5; what++) {
                all.add(x.of(village, what));
            }
        }
        for (int field = 0; field < 25; field++) {
            all.add(x.fallen(field));
        }
        all.add(x.seed(0));
        all.add(x.type(32, 1));
        all.add(x.where(5, 1, 1));
        all.add(x.where(5, 2, 1));
        all.add(x.winds());
        all.add(x.count(3));
        all.add(x.restore());
        all.add(x.count(0) + 10 * x.count(1) + 100 * x.count(2));
        tellSheets(x, all);
        return all;
    }

    /** By a village that is alone, and wetter by 1 each hour: an item is told by the hour in which that is as wet. */
    private static void tellSheets(CloudStrings x, List<Integer> all) {
        x.village(12, 0, 0);
        for (int hour = 0; hour < 4; hour++) {
            for (int sheet = 0; sheet < 3; sheet++) {
                for (int i = 0; i < LENGTHS[sheet]; i++) {
                    all.add(x.held(1, sheet, sheet, i, -1));
                }
            }
            if (hour == 0) {
                x.cloud(SMALL, 12, 9);
            } else {
                x.pass(1);
            }
        }
        for (int sheet = 0; sheet < 4; sheet++) {
            all.add(x.drop(sheet));
        }
    }

    private static void refused(int itsPromise, String what, int want, Call call) {
        promise = itsPromise;
        CloudStrings asked = land();
        due(what, want, call.on(asked));
        List<Integer> due = tellAll(land());
        List<Integer> told = tellAll(asked);
        for (int i = 0; i < due.size(); i++) {
            due(what + ", then what is told in place " + i, due.get(i), told.get(i));
        }
    }

    private static void refusedClouds() {
        promise = 1;
        due("clouds 2 and 4 are away", AWAY + AWAY, land().told(2, 1) + land().told(4, 1));
        due("the tape has 45", 48, land().type(0x202020, 3));
        refused(2, "cloud of kind 4", BAD, x -> x.cloud(4, 0, 1));
        refused(2, "cloud without water", BAD, x -> x.cloud(0, 0, 0));
        refused(2, "a seventh cloud, in spite of those that are away", FULL, x -> x.cloud(0, 0, 1));
        refused(4, "told of no cloud", BAD, x -> x.told(6, 0));
        refused(9, "join of one alike", BAD, x -> x.join(0, 0));
        refused(9, "join of no cloud", BAD, x -> x.join(0, 6));
        refused(9, "join over two fields", NOT, x -> x.join(0, 1));
        refused(9, "join, the first away", NOT, x -> x.join(2, 0));
        refused(9, "join, the second away", NOT, x -> x.join(0, 2));
        refused(9, "join, both away", NOT, x -> x.join(2, 4));
        refused(10, "split by 0", BAD, x -> x.split(5, 0));
        refused(10, "split by 1000", BAD, x -> x.split(5, 1000));
        refused(10, "split of one that is away", NOT, x -> x.split(4, 1));
        refused(10, "split by all it has", NOT, x -> x.split(5, x.told(5, 2)));
        refused(10, "split by all but 1, into a seventh cloud", FULL, x -> x.split(5, x.told(5, 2) - 1));
        refused(11, "salt on no cloud", BAD, x -> x.salt(6));
        refused(11, "salt on one that is away", NOT, x -> x.salt(4));
        refused(12, "type of 0 bytes", BAD, x -> x.type(0x75L, 0));
        refused(12, "type of a byte 31, the lowest", BAD, x -> x.type(0x75751fL, 3));
        refused(12, "type of a byte 127, the highest", BAD, x -> x.type(0x7f7575L, 3));
        refused(12, "type of 4 to 45", FULL, x -> x.type(0x75757575L, 4));
        refused(14, "fallen on no field", BAD, x -> x.fallen(25));
        refused(15, "count of nothing", BAD, x -> x.count(8));
    }

    private static void refusedVillages() {
        refused(3, "village without end of string", BAD, x -> x.village(0, 10, 0));
        refused(3, "village where one is", NOT, x -> x.village(24, 1, 1));
        refused(3, "a fifth village", FULL, x -> x.village(0, 1, 1));
        refused(5, "of no village", BAD, x -> x.of(4, 0));
        refused(6, "string 10", BAD, x -> x.set(0, 0, 10));
        refused(6, "thirst 100", BAD, x -> x.set(0, 1, 100));
        refused(6, "less string than holds", NOT, x -> x.set(0, 0, 2));
        refused(6, "set of what is not told", BAD, x -> x.set(0, 2, 3));
        refused(7, "hold by 10", BAD, x -> x.hold(2, 0, 10));
        refused(7, "hold of one that is away", NOT, x -> x.hold(2, 4, 1));
        refused(7, "hold of one that is away, by none", NOT, x -> x.hold(2, 2, 0));
        refused(7, "hold by one more than it has", FULL, x -> x.hold(0, 1, 4));
        refused(7, "hold of the same by one more than it has", FULL, x -> x.hold(0, 0, 7));
        refused(8, "holds of no cloud", BAD, x -> x.holds(0, 6));
        refused(19, "wet of no village", BAD, x -> x.wet(4, 1));
        refused(19, "wet in 25 hours", BAD, x -> x.wet(0, 25));
        refused(20, "where is no cloud", BAD, x -> x.where(6, 1, 0));
        refused(20, "where, let 2", BAD, x -> x.where(0, 1, 2));
        refused(21, "fewest in 13 hours", BAD, x -> x.fewest(0, 13, 0));
        refused(21, "fewest that are not enough", NONE, x -> x.fewest(3, 1, -1));
        refused(22, "tug of one alike", BAD, x -> x.tug(1, 1, 1, 0));
        refused(22, "tug in 13 hours", BAD, x -> x.tug(0, 1, 13, 0));
    }

    private static void refusedByHours() {
        refused(16, "pass 0", BAD, x -> x.pass(0));
        refused(16, "pass 61", BAD, x -> x.pass(61));
        refused(16, "pass to 10000", FULL, x -> x.pass(38));
        refused(17, "drawn 0", BAD, x -> x.drawn(0));
        refused(17, "drawn 61", BAD, x -> x.drawn(61));
        refused(17, "drawn to 10000", FULL, x -> x.drawn(38));
        refused(18, "seed -1", BAD, x -> x.seed(-1));
        promise = 16;
        CloudStrings x = land();
        due("pass to 9999", true, x.pass(37) > 0);
        due("the hour", 9999, x.count(2));
        due("one more", FULL, x.pass(1));
        promise = 17;
        CloudStrings y = land();
        due("drawn to 9999", true, y.drawn(37) > 0);
        due("the hour", 9999, y.count(2));
        due("one more", FULL, y.drawn(1));
    }

    private static void refusedSheets() {
        refused(25, "held in 13 hours", BAD, x -> x.held(13, 0, BYTES, 0, -1));
        refused(25, "held of no sheet", NULL, x -> x.held(1, 3, BYTES, 0, -1));
        refused(25, "held of another lane", CAST, x -> x.held(1, 1, INTS, 0, -1));
        refused(25, "held from too far", INDEX, x -> x.held(1, 1, SHORTS, 1, -1));
        refused(25, "held by no row", NONE, x -> x.held(1, 1, SHORTS, 0, 0));
        refused(26, "film of no row", BAD, x -> x.film(5, 0, BYTES, 0));
        refused(26, "film to no sheet", NULL, x -> x.film(0, 3, BYTES, 0));
        refused(26, "film to another lane", CAST, x -> x.film(0, 0, INTS, 0));
        refused(26, "film to a row of 4", INDEX, x -> x.film(0, 1, SHORTS, 0));
        refused(26, "film from 1 to a row of 5", INDEX, x -> x.film(2, 0, BYTES, 1));
        refused(26, "film from below 0", INDEX, x -> x.film(2, 2, INTS, -1));
        refused(27, "sheet of 26", BAD, x -> x.sheet(0, SHORTS, 26));
        refused(27, "sheet below 0", SIZE, x -> x.sheet(0, SHORTS, -1));
        refused(27, "sheet of no lane", BAD, x -> x.sheet(0, 3, 2));
        refused(27, "sheet below 0 where none is", SIZE, x -> x.sheet(3, BYTES, -1));
        refused(28, "drop of no sheet", NULL, x -> x.drop(3));
        refused(28, "drop of sheet 4", BAD, x -> x.drop(4));
        refused(29, "item of no sheet", NULL, x -> x.item(3, BYTES, 0, 3));
        refused(29, "item of another lane", CAST, x -> x.item(2, BYTES, 0, 3));
        refused(29, "item behind the last", INDEX, x -> x.item(0, BYTES, 5, 3));
        refused(29, "item ahead of the first", INDEX, x -> x.item(0, BYTES, -1, 3));
        refused(30, "copy to no sheet", NULL, x -> x.copy(0, 0, 3, 0, 1));
        refused(30, "copy from no sheet", NULL, x -> x.copy(3, 0, 0, 0, 1));
        refused(30, "copy to another lane", CAST, x -> x.copy(0, 0, 1, 0, 1));
        refused(30, "copy of one too many", INDEX, x -> x.copy(0, 1, 0, 0, 5));
        refused(30, "copy to one too far", INDEX, x -> x.copy(0, 0, 0, 1, 5));
        refused(30, "copy of less than none", INDEX, x -> x.copy(0, 3, 0, 1, -1));
        refused(30, "copy to sheet 4", BAD, x -> x.copy(0, 0, 4, 0, 1));
    }

    private static void orderOfClouds() {
        CloudStrings x = land();
        promise = 2;
        due("cloud: BAD, FULL", BAD, x.cloud(0, 25, 1));
        promise = 3;
        due("village: BAD, NOT, FULL", BAD, x.village(24, 1, 100));
        due("village: NOT, FULL", NOT, x.village(24, 1, 1));
        promise = 6;
        due("set: BAD, NOT", BAD, x.set(0, 0, -1));
        promise = 7;
        due("hold: BAD, NOT, FULL", BAD, x.hold(3, 2, 10));
        due("hold: NOT, FULL", NOT, x.hold(3, 2, 9));
        promise = 9;
        due("join: BAD, NOT", BAD, x.join(2, 2));
        promise = 10;
        due("split: BAD, NOT, FULL", BAD, x.split(4, 0));
        due("split: NOT (away), FULL", NOT, x.split(4, 1));
        due("split: NOT (has not more), FULL", NOT, x.split(0, 999));
        promise = 12;
        due("type: BAD (n), FULL", BAD, x.type(0x2020202020202020L, 9));
        due("type: BAD (a byte), FULL", BAD, x.type(0x7f20202020202020L, 8));
        promise = 16;
        due("pass: BAD, FULL", BAD, x.pass(61));
        promise = 17;
        due("drawn: BAD, FULL", BAD, x.drawn(61));
    }

    private static void orderOfPlans() {
        CloudStrings x = land();
        promise = 21;
        due("fewest: NONE", NONE, x.fewest(3, 1, 5));
        due("fewest: BAD, NONE", BAD, x.fewest(3, 1, 6));
        promise = 22;
        // neither gets the most on one cloud without the other wanting to share it: no pair (StringsTest)
        CloudStrings y = new CloudStrings();
        y.village(24, 2, 0);
        y.village(17, 4, 0);
        y.cloud(SMALL, 23, 15);
        y.cloud(WHITE, 17, 12);
        due("tug: NONE", NONE, y.tug(0, 1, 4, 1));
        due("tug: BAD, NONE", BAD, y.tug(0, 1, 4, 2));
        due("tug: how many is not refused", 0, y.tug(0, 1, 4, 0));
    }

    private static void orderOfSheets() {
        CloudStrings x = land();
        promise = 25;
        due("held: BAD, NULL", BAD, x.held(0, 3, BYTES, -1, -1));
        due("held: BAD (j), NULL", BAD, x.held(1, 3, BYTES, -1, 4));
        due("held: NULL, INDEX", NULL, x.held(1, 3, BYTES, -1, -1));
        due("held: CAST, INDEX", CAST, x.held(1, 2, BYTES, -1, -1));
        due("held: INDEX, NONE", INDEX, x.held(1, 2, INTS, 3, 0));
        due("held: NONE", NONE, x.held(1, 2, INTS, 2, 0));
        CloudStrings y = new CloudStrings();
        y.sheet(0, BYTES, 0);
        due("held: CAST, NOT", CAST, y.held(1, 0, INTS, 0, -1));
        due("held: INDEX, NOT, above", INDEX, y.held(1, 0, BYTES, 1, -1));
        due("held: INDEX, NOT, below", INDEX, y.held(1, 0, BYTES, -1, -1));
        due("held: NOT, NONE", NOT, y.held(1, 0, BYTES, 0, 3));
        y.village(0, 0, 0);
        due("held: INDEX, NONE (no j-th)", INDEX, y.held(1, 0, BYTES, 0, 3));
        y.sheet(0, BYTES, 1);
        due("held: NONE (no j-th)", NONE, y.held(1, 0, BYTES, 0, 1));
        promise = 26;
        due("film: BAD, NULL", BAD, x.film(-1, 3, BYTES, -1));
        due("film: NULL, INDEX", NULL, x.film(0, 3, BYTES, -1));
        due("film: CAST, INDEX", CAST, x.film(0, 2, BYTES, -1));
        promise = 27;
        due("sheet: BAD (sheet), SIZE", BAD, x.sheet(-1, BYTES, -1));
        due("sheet: BAD (lane), SIZE", BAD, x.sheet(0, 3, -1));
        promise = 29;
        due("item: BAD, NULL", BAD, x.item(3, 3, -1, 0));
        due("item: NULL, INDEX", NULL, x.item(3, BYTES, -1, 0));
        due("item: CAST, INDEX", CAST, x.item(2, BYTES, -1, 0));
        promise = 30;
        due("copy: BAD, NULL", BAD, x.copy(3, -1, 4, -1, -1));
        due("copy: NULL, INDEX", NULL, x.copy(3, -1, 0, -1, -1));
        due("copy: NULL (the second), INDEX", NULL, x.copy(0, -1, 3, -1, -1));
        due("copy: CAST, INDEX", CAST, x.copy(0, -1, 1, -1, -1));
    }
}
