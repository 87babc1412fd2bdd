/** Promises 25 to 30: held and sheets. What is due was worked out by hand from the document. */
public final class SheetsTest extends Due {
    public static void main(String[] args) {
        promise = 25;
        held();
        heldByFour();
        heldOrder();
        promise = 26;
        film();
        filmColumns();
        filmLowestBits();
        promise = 27;
        sheet();
        promise = 28;
        drop();
        promise = 29;
        item();
        signs();
        promise = 30;
        copy();
        end();
    }

    private static CloudStrings threeVillages() {
        CloudStrings x = new CloudStrings();
        x.village(10, 2, 0);
        x.village(14, 2, 0);
        x.village(22, 1, 0);
        x.cloud(WHITE, 11, 99);
        x.cloud(THUNDER, 13, 99);
        return x;
    }

    private static void tellWet(CloudStrings x, int sheet, int lane, int start, int... wet) {
        for (int v = 0; v < wet.length; v++) {
            due("item", 1, x.item(sheet, lane, start + v, wet[v]));
        }
    }

    private static void held() {
        CloudStrings x = threeVillages();
        due("no sheet", NULL, x.held(1, 0, BYTES, 0, -1));
        x.sheet(0, BYTES, 4);
        tellWet(x, 0, BYTES, 1, 2, 5, 0);
        // the third has 1 string, too few to keep any cloud from 2: it may lie on 0, on 1, or on none
        due("rows", 3, x.held(1, 0, BYTES, 1, -1));
        due("first", 0, x.held(1, 0, BYTES, 1, 0));
        due("second", 1, x.held(1, 0, BYTES, 1, 1));
        due("third", 0, x.held(1, 0, BYTES, 1, 2));
        due("no fourth", NONE, x.held(1, 0, BYTES, 1, 3));
        tellWet(x, 0, BYTES, 1, 2, 0, 0);
        // the first on 0; the second on 0, too (the third not, or nobody pulls it: 2), or on none (3)
        due("rows", 5, x.held(1, 0, BYTES, 1, -1));
        due("second of the first row", 0, x.held(1, 0, BYTES, 1, 1));
        due("third of the first row", 1, x.held(1, 0, BYTES, 1, 2));
        tellWet(x, 0, BYTES, 1, 0, 5, 0);
        // where both are on 1 the first pulls, so the first is on none
        due("rows", 3, x.held(1, 0, BYTES, 1, -1));
        due("none is behind all clouds", 6, x.held(1, 0, BYTES, 1, 0));
        tellWet(x, 0, BYTES, 1, 9, 9, 9);
        due("no rows", 0, x.held(1, 0, BYTES, 1, -1));
        due("no first one", NONE, x.held(1, 0, BYTES, 1, 0));
        x.pass(1);
        tellWet(x, 0, BYTES, 1, 2, 5, 0);
        due("from now on", 3, x.held(1, 0, BYTES, 1, -1));
        x.hold(0, 0, 2);
        x.pass(1);
        tellWet(x, 0, BYTES, 1, 4, 5, 0);
        // cloud 0 is over the first now: it stays there if the first is on it (3), or on none and the third, too (2)
        due("in all, as it is now, too; what holds now is let go", 5, x.held(1, 0, BYTES, 1, -1));
        tellWet(x, 0, BYTES, 1, 2, 5, 0);
        due("the third pulls it off", 1, x.held(1, 0, BYTES, 1, -1));
        due("so the first is on none", 6, x.held(1, 0, BYTES, 1, 0));
        due("the second on 1", 1, x.held(1, 0, BYTES, 1, 1));
        due("the third on 0", 0, x.held(1, 0, BYTES, 1, 2));
        due("what holds now still holds", 2, x.holds(0, 0));
        CloudStrings y = threeVillages();
        y.sheet(1, INTS, 3);
        tellWet(y, 1, INTS, 0, Integer.MIN_VALUE, Integer.MAX_VALUE, -1);
        due("far numbers", 0, y.held(12, 1, INTS, 0, -1));
    }

    private static void heldByFour() {
        CloudStrings x = new CloudStrings();
        x.village(11, 9, 0);
        x.village(13, 3, 0);
        x.village(7, 3, 0);
        x.village(17, 3, 0);
        x.cloud(WHITE, 12, 99);
        x.sheet(0, INTS, 4);
        tellWet(x, 0, INTS, 0, 2, 0, 0, 0);
        due("9 against all others", 8, x.held(1, 0, INTS, 0, -1));
        due("the last one, too", 0, x.held(1, 0, INTS, 0, 3));
        x.set(0, 0, 8);
        due("8 against all others but one", 7, x.held(1, 0, INTS, 0, -1));
        due("the third", 0, x.held(1, 0, INTS, 0, 2));
        due("not the last one", 6, x.held(1, 0, INTS, 0, 3));
        tellWet(x, 0, INTS, 0, 0, 0, 0, 0);
        // all four hold it where it is; so do all but the first; and nobody does
        due("nobody pulls it", 3, x.held(1, 0, INTS, 0, -1));
        for (int v = 0; v < 4; v++) {
            due("all four", 0, x.held(1, 0, INTS, 0, v));
        }
        for (int v = 0; v < 4; v++) {
            x.set(v, 0, 0);
        }
        for (int cloud = 1; cloud < 6; cloud++) {
            x.cloud(WHITE, 0, 9);
        }
        due("all rows of six clouds and none", 2401, x.held(12, 0, INTS, 0, -1));
    }

    private static void heldOrder() {
        CloudStrings x = new CloudStrings();
        due("null ahead of no village", NULL, x.held(1, 0, BYTES, 0, -1));
        x.sheet(0, BYTES, 2);
        due("cast ahead of no village", CAST, x.held(1, 0, SHORTS, 0, -1));
        due("cast ahead of index", CAST, x.held(1, 0, SHORTS, 3, -1));
        due("index ahead of no village", INDEX, x.held(1, 0, BYTES, 3, -1));
        due("index below 0", INDEX, x.held(1, 0, BYTES, -1, -1));
        due("at the end no item is taken", NOT, x.held(1, 0, BYTES, 2, -1));
        due("no village", NOT, x.held(1, 0, BYTES, 0, 0));
        x.village(12, 1, 0);
        due("none and no cloud", 1, x.held(1, 0, BYTES, 1, -1));
        due("none", 6, x.held(1, 0, BYTES, 1, 0));
        due("one item is too far", INDEX, x.held(1, 0, BYTES, 2, -1));
        due("no second", NONE, x.held(1, 0, BYTES, 1, 1));
        x.village(13, 1, 0);
        due("two items", 1, x.held(1, 0, BYTES, 0, -1));
        due("the second is too far", INDEX, x.held(1, 0, BYTES, 1, -1));
        due("far index", INDEX, x.held(1, 0, BYTES, Integer.MAX_VALUE, -1));
        due("0 hours", BAD, x.held(0, 0, BYTES, 0, -1));
        due("13 hours", BAD, x.held(13, 0, BYTES, 0, -1));
        due("sheet 4", BAD, x.held(1, 4, BYTES, 0, -1));
        due("lane 3", BAD, x.held(1, 0, 3, 0, -1));
        due("village 4", BAD, x.held(1, 0, BYTES, 0, 4));
        due("village -2", BAD, x.held(1, 0, BYTES, 0, -2));
        due("bad ahead of null", BAD, x.held(13, 1, BYTES, 0, -1));
        due("bad ahead of index", BAD, x.held(1, 0, BYTES, 9, 4));
        for (int wrong : WRONG) {
            due(wrong + " hours", BAD, x.held(wrong, 0, BYTES, 0, -1));
            due("sheet " + wrong, BAD, x.held(1, wrong, BYTES, 0, -1));
            due("lane " + wrong, BAD, x.held(1, 0, wrong, 0, -1));
        }
    }

    /** If an item is as much as the first village (alone, without string) is wet: then, and only then, there are rows. */
    private static void itemIs(String when, boolean want, CloudStrings x, int sheet, int lane, int i) {
        due(when, want, x.held(1, sheet, lane, i, -1) > 0);
    }

    /** A land with one village, in field 0, wet by so much, and no cloud over it. */
    private static CloudStrings wetBy(int wet) {
        CloudStrings x = new CloudStrings();
        x.village(0, 0, 0);
        if (wet > 0) {
            x.cloud(SMALL, 0, wet);
            rainOut(x, wet);
            winds(x, "u1");
            x.pass(1);
            winds(x, "u0");
        }
        due("over the land", 0, x.count(0));
        due("wet", wet, x.of(0, 3));
        return x;
    }

    private static void rainOut(CloudStrings x, int hours) {
        for (int h = 0; h < hours; h += 60) {
            x.pass(Math.min(60, hours - h));
        }
    }

    private static void film() {
        CloudStrings x = wetBy(300);
        due("fallen", 300, x.fallen(0));
        x.sheet(0, SHORTS, 7);
        due("filmed", 5, x.film(0, 0, SHORTS, 2));
        itemIs("its first field", true, x, 0, SHORTS, 2);
        itemIs("the next one is dry", false, x, 0, SHORTS, 3);
        due("another row", 5, x.film(4, 0, SHORTS, 2));
        itemIs("is dry", false, x, 0, SHORTS, 2);
        due("one too far", INDEX, x.film(0, 0, SHORTS, 3));
        due("below 0", INDEX, x.film(0, 0, SHORTS, -1));
        due("far index", INDEX, x.film(0, 0, SHORTS, Integer.MAX_VALUE));
        due("another lane", CAST, x.film(0, 0, INTS, 0));
        due("cast ahead of index", CAST, x.film(0, 0, BYTES, 9));
        due("nothing there", NULL, x.film(0, 1, SHORTS, 0));
        due("row 5", BAD, x.film(5, 0, SHORTS, 0));
        due("sheet 4", BAD, x.film(0, 4, SHORTS, 0));
        due("lane 3", BAD, x.film(0, 0, 3, 0));
        due("bad ahead of null", BAD, x.film(5, 1, SHORTS, 0));
        for (int wrong : WRONG) {
            due("row " + wrong, BAD, x.film(wrong, 0, SHORTS, 0));
            due("sheet " + wrong, BAD, x.film(0, wrong, SHORTS, 0));
            due("lane " + wrong, BAD, x.film(0, 0, wrong, 0));
        }
    }

    /** Fields 10 to 14, on which 0 to 4 has fallen. */
    private static void filmColumns() {
        for (int wet = 0; wet < 5; wet++) {
            CloudStrings x = wetBy(wet);
            for (int column = 1; column < 5; column++) {
                x.cloud(SMALL, 10 + column, column);
            }
            x.pass(4);
            x.sheet(3, INTS, 25);
            due("filmed at the end", 5, x.film(2, 3, INTS, 20));
            for (int column = 0; column < 5; column++) {
                itemIs("wet by " + wet + ", column " + column, column == wet, x, 3, INTS, 20 + column);
            }
            itemIs("ahead of them", wet == 0, x, 3, INTS, 19);
        }
    }

    private static void filmLowestBits() {
        CloudStrings x = wetBy(44);
        x.cloud(SMALL, 24, 300);
        rainOut(x, 300);
        x.sheet(0, BYTES, 5);
        x.film(4, 0, BYTES, 0);
        itemIs("300 as a byte is 44", true, x, 0, BYTES, 4);
        CloudStrings y = wetBy(200);
        y.sheet(0, BYTES, 5);
        y.film(0, 0, BYTES, 0);
        itemIs("200 as a byte is below 0", false, y, 0, BYTES, 0);
        y.sheet(0, INTS, 5);
        y.film(0, 0, INTS, 0);
        itemIs("200 as an int", true, y, 0, INTS, 0);
    }

    private static void sheet() {
        CloudStrings x = new CloudStrings();
        due("none", 0, x.sheet(0, BYTES, 0));
        due("25", 25, x.sheet(3, INTS, 25));
        due("26", BAD, x.sheet(0, BYTES, 26));
        due("below 0", SIZE, x.sheet(1, BYTES, -1));
        due("far below 0", SIZE, x.sheet(1, BYTES, Integer.MIN_VALUE));
        due("refused", NULL, x.drop(1));
        due("far above", BAD, x.sheet(0, BYTES, Integer.MAX_VALUE));
        due("sheet 4", BAD, x.sheet(4, BYTES, 1));
        due("lane 3", BAD, x.sheet(0, 3, 1));
        due("bad ahead of size", BAD, x.sheet(4, BYTES, -1));
        for (int wrong : WRONG) {
            due("sheet " + wrong, BAD, x.sheet(wrong, BYTES, 1));
            due("lane " + wrong, BAD, x.sheet(0, wrong, 1));
        }
        due("refused, as it was", 0, x.drop(0));
        x.village(0, 0, 0);
        x.sheet(2, SHORTS, 3);
        x.item(2, SHORTS, 1, 7);
        due("7", 0, x.held(1, 2, SHORTS, 1, -1));
        due("a new row", 4, x.sheet(2, SHORTS, 4));
        due("has 0", 1, x.held(1, 2, SHORTS, 1, -1));
        due("another lane", 2, x.sheet(2, INTS, 2));
        due("not the old one", CAST, x.held(1, 2, SHORTS, 1, -1));
        due("not so many", INDEX, x.held(1, 2, INTS, 2, -1));
        due("refused by size", SIZE, x.sheet(2, BYTES, -5));
        due("as it was", 1, x.held(1, 2, INTS, 1, -1));
    }

    private static void drop() {
        CloudStrings x = new CloudStrings();
        x.sheet(0, BYTES, 9);
        x.sheet(1, BYTES, 0);
        due("9", 9, x.drop(0));
        due("nothing there", NULL, x.drop(0));
        due("0", 0, x.drop(1));
        due("nothing there", NULL, x.drop(1));
        due("nothing to write", NULL, x.item(0, BYTES, 0, 1));
        due("sheet 4", BAD, x.drop(4));
        for (int wrong : WRONG) {
            due("sheet " + wrong, BAD, x.drop(wrong));
        }
        due("made again", 2, x.sheet(0, INTS, 2));
        due("2", 2, x.drop(0));
    }

    private static void item() {
        CloudStrings x = new CloudStrings();
        due("nothing there", NULL, x.item(0, BYTES, 0, 1));
        x.village(0, 0, 0);
        int[] lanes = {BYTES, SHORTS, INTS};
        long[] same = {256L, 65536L, 4294967296L};
        for (int lane : lanes) {
            x.sheet(lane, lane, 3);
            due("first", 1, x.item(lane, lane, 0, 1));
            due("last", 1, x.item(lane, lane, 2, Long.MIN_VALUE));
            due("one too far", INDEX, x.item(lane, lane, 3, 1));
            due("below 0", INDEX, x.item(lane, lane, -1, 1));
            due("far", INDEX, x.item(lane, lane, Integer.MAX_VALUE, 1));
            due("another lane", CAST, x.item(lane, (lane + 1) % 3, 9, 1));
            due("it is 1", 0, x.held(1, lane, lane, 0, -1));
            due("the lowest bits are 0", 1, x.held(1, lane, lane, 2, -1));
            x.item(lane, lane, 2, same[lane]);
            due("just one bit too high", 1, x.held(1, lane, lane, 2, -1));
            x.item(lane, lane, 2, same[lane] / 2);
            due("the highest bit", 0, x.held(1, lane, lane, 2, -1));
        }
        due("sheet 4", BAD, x.item(4, BYTES, 0, 1));
        due("lane 3", BAD, x.item(0, 3, 0, 1));
        for (int wrong : WRONG) {
            due("sheet " + wrong, BAD, x.item(wrong, BYTES, 0, 1));
            due("lane " + wrong, BAD, x.item(0, wrong, 0, 1));
        }
    }

    /** A village wet by 200 sees it in a short, not in a byte, which has a sign. */
    private static void signs() {
        CloudStrings x = wetBy(200);
        x.sheet(0, BYTES, 1);
        x.item(0, BYTES, 0, 200);
        itemIs("a byte has a sign", false, x, 0, BYTES, 0);
        x.sheet(0, SHORTS, 1);
        x.item(0, SHORTS, 0, 200 - 65536);
        itemIs("the lowest bits of a short", true, x, 0, SHORTS, 0);
        x.sheet(0, INTS, 1);
        x.item(0, INTS, 0, 200 + 4294967296L);
        itemIs("the lowest bits of an int", true, x, 0, INTS, 0);
        x.item(0, INTS, 0, 200 + 65536);
        itemIs("no more bits are lost", false, x, 0, INTS, 0);
    }

    /** Items of a sheet of shorts that are 0 are 1, others 0, as bits from item 0 on. */
    private static int zeros(CloudStrings x, int sheet, int n) {
        int bits = 0;
        for (int i = 0; i < n; i++) {
            bits = 2 * bits + x.held(1, sheet, SHORTS, i, -1);
        }
        return bits;
    }

    private static void copy() {
        CloudStrings x = new CloudStrings();
        x.village(0, 0, 0);
        due("from nothing", NULL, x.copy(0, 0, 1, 0, 1));
        x.sheet(0, SHORTS, 6);
        due("to nothing", NULL, x.copy(0, 0, 1, 0, 1));
        due("nothing to something", NULL, x.copy(1, 0, 0, 0, 1));
        x.sheet(1, SHORTS, 4);
        x.sheet(2, INTS, 4);
        due("unlike lanes", CAST, x.copy(0, 0, 2, 0, 1));
        due("cast ahead of index", CAST, x.copy(0, 0, 2, 0, -1));
        x.item(0, SHORTS, 1, 5);
        x.item(0, SHORTS, 3, 5);
        due("1 0 1 0 1 1", 0b101011, zeros(x, 0, 6));
        due("3 items", 3, x.copy(0, 1, 1, 0, 3));
        due("0 1 0 1", 0b0101, zeros(x, 1, 4));
        due("to the right, as if taken ahead", 4, x.copy(0, 0, 0, 1, 4));
        due("1 1 0 1 0 1", 0b110101, zeros(x, 0, 6));
        due("to the left", 4, x.copy(0, 2, 0, 1, 4));
        due("1 0 1 0 1 1", 0b101011, zeros(x, 0, 6));
        due("the same place", 6, x.copy(0, 0, 0, 0, 6));
        due("no items", 0, x.copy(0, 0, 1, 0, 0));
        due("no items at the ends", 0, x.copy(0, 6, 1, 4, 0));
        x.sheet(3, SHORTS, 2);
        due("to the last sheet", 2, x.copy(0, 0, 3, 0, 2));
        due("1 0", 0b10, zeros(x, 3, 2));
        due("from the last sheet", 2, x.copy(3, 0, 3, 0, 2));
        due("no items, i above", INDEX, x.copy(0, 7, 1, 0, 0));
        due("no items, j above", INDEX, x.copy(0, 0, 1, 5, 0));
        due("i below 0", INDEX, x.copy(0, -1, 1, 0, 0));
        due("j below 0", INDEX, x.copy(0, 0, 1, -1, 1));
        due("n below 0", INDEX, x.copy(0, 3, 1, 3, -1));
        due("too many to take", INDEX, x.copy(1, 2, 0, 0, 3));
        due("too many to put", INDEX, x.copy(0, 0, 1, 1, 4));
        due("far i and n", INDEX, x.copy(0, Integer.MAX_VALUE, 1, 0, Integer.MAX_VALUE));
        due("far n", INDEX, x.copy(0, 1, 1, 1, Integer.MAX_VALUE));
        due("lowest n", INDEX, x.copy(0, 1, 1, 1, Integer.MIN_VALUE));
        due("refused", 0b0101, zeros(x, 1, 4));
        due("from 4", BAD, x.copy(4, 0, 0, 0, 1));
        due("to 4", BAD, x.copy(0, 0, 4, 0, 1));
        for (int wrong : WRONG) {
            due("from " + wrong, BAD, x.copy(wrong, 0, 0, 0, 1));
            due("to " + wrong, BAD, x.copy(0, 0, wrong, 0, 1));
        }
    }
}
