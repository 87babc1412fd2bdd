/**
 * The sentences of the document's Terms that name a boundary case, from FEWEST to the sheets: each has a test of its
 * own, that bears its words. Where a sentence is about all fields, kinds or forces, all of them are tried.
 */
public final class PlanEdgesTest extends Due {
    private static final int[] WEIGHT = {1, 1, 2, 1};

    public static void main(String[] args) {
        planSentences();
        drawnSentences();
        textSentences();
        sheetSentences();
        end();
    }

    // ---- FEWEST, A TUG, HELD

    private static void planSentences() {
        says(21, "the fewest STRINGS together (no more than it has); NONE: not by all it has");
        noMoreThanItHas();
        says(21, "be WET (in all, as it is now, too) by its THIRST or more behind these HOURS");
        thirstOrMore();
        says(21, "(of CLOUDS by numbers; those AWAY have 0)");
        awayHasNone();
        says(21, "of like ones the first row");
        firstRow();
        fewestAheadOfFirst();
        says(22, "each lays all its STRING (what holds CLOUDS now is let go) on one CLOUD .. not AWAY, or on none (6)");
        tugOfAll();
        letGo();
        says(25, "on one CLOUD that is not AWAY, or on none (6), by which it would be so: how many, the first");
        heldOfAll();
        says(25, "NOT: there is no VILLAGE; NONE: there is none (0 ..), no j-th");
        heldByFewer();
    }

    /** A wind of such a force that just need strings hold the cloud over the village. */
    private static void noMoreThanItHas() {
        int[][] cases = {{WHITE, 1}, {WHITE, 2}, {WHITE, 3}, {THUNDER, 1}, {THUNDER, 2}, {THUNDER, 3}};
        for (int[] c : cases) {
            int need = c[1] * WEIGHT[c[0]];
            for (int has = 0; has < 10; has++) {
                CloudStrings x = windy("r" + c[1]);
                x.village(12, has, 1);
                x.cloud(c[0], 12, 99);
                String told = "need " + need + ", has " + has;
                due(told, has >= need ? need : NONE, x.fewest(0, 1, -1));
                due(told + ", on it", has >= need ? need : NONE, x.fewest(0, 1, 0));
                due(told + ", on no cloud", has >= need ? 0 : NONE, x.fewest(0, 1, 5));
            }
        }
    }

    private static void thirstOrMore() {
        for (int wet = 0; wet < 3; wet++) {
            for (int hours = 1; hours <= 12; hours++) {
                CloudStrings x = windy("u1");
                x.village(12, 1, 0);
                x.cloud(SMALL, 12, 99);
                x.hold(0, 0, 1);
                for (int h = 0; h < wet; h++) {
                    x.pass(1);
                }
                x.set(0, 1, wet + hours);
                due("wet by just its thirst", 1, x.fewest(0, hours, -1));
                x.set(0, 1, wet + hours + 1);
                due("less by 1", NONE, x.fewest(0, hours, -1));
                x.set(0, 1, wet);
                due("as it is now", 0, x.fewest(0, hours, -1));
                x.set(0, 1, 0);
                due("no thirst", 0, x.fewest(0, hours, -1));
                x.set(0, 1, wet + 1);
                due("more by 1 than now", 1, x.fewest(0, hours, 0));
                due("what it holds stays", 1, x.holds(0, 0));
            }
        }
    }

    private static void awayHasNone() {
        CloudStrings x = windy("u1");
        x.village(20, 9, 9);
        x.cloud(THUNDER, 3, 999);
        x.cloud(SMALL, 20, 10);
        x.pass(1);
        due("the first is away", AWAY, x.told(0, 1));
        due("9 rain by the small one, that comes back", 1, x.fewest(0, 9, -1));
        due("not on the one that is away", 0, x.fewest(0, 9, 0));
        due("on the small one", 1, x.fewest(0, 9, 1));
        for (int c = 2; c < 6; c++) {
            due("0 where there is none", 0, x.fewest(0, 9, c));
        }
        due("8 hours are too few", NONE, x.fewest(0, 8, 0));
        x.set(0, 1, 10);
        due("no more by the one that is away", NONE, x.fewest(0, 12, -1));
    }

    /** Six clouds alike over the village, held there by 1 each: the last ones make the first row. */
    private static void firstRow() {
        for (int thirst = 0; thirst < 8; thirst++) {
            CloudStrings x = windy("d1");
            x.village(2, 9, thirst);
            for (int c = 0; c < 6; c++) {
                x.cloud(SMALL, 2, 9);
            }
            due("strings for " + thirst, thirst > 6 ? NONE : thirst, x.fewest(0, 1, -1));
            for (int c = 0; c < 6; c++) {
                due("on " + c + " for " + thirst, thirst > 6 ? NONE : c >= 6 - thirst ? 1 : 0, x.fewest(0, 1, c));
            }
        }
    }

    /** The wind has force 1: a small cloud is held over the village by 1 string, a thunder by 2. */
    private static void fewestAheadOfFirst() {
        CloudStrings x = windy("d1");
        x.village(2, 9, 2);
        x.cloud(SMALL, 2, 9);
        x.cloud(SMALL, 2, 9);
        x.cloud(THUNDER, 2, 1);
        rowIs("1 1 0 is less together than 1 0 2 and 0 1 2", x, 1, 1, 0);
        x.set(0, 1, 3);
        rowIs("all", x, 1, 1, 2);
        CloudStrings y = windy("d1");
        y.village(2, 9, 3);
        y.cloud(THUNDER, 2, 9);
        y.cloud(THUNDER, 2, 9);
        y.cloud(SMALL, 2, 9);
        rowIs("5 is more than 3: 0 2 0 ahead of 2 0 0", y, 0, 2, 0);
        y.set(0, 1, 5);
        rowIs("just 5", y, 0, 2, 0);
        y.set(0, 1, 6);
        rowIs("5 and 1: 0 2 1 ahead of 2 0 1", y, 0, 2, 1);
        y.set(0, 1, 7);
        rowIs("10 is more than 7", y, 2, 2, 0);
        y.set(0, 0, 3);
        due("not by 3", NONE, y.fewest(0, 1, 2));
        y.set(0, 0, 4);
        rowIs("just by 4", y, 2, 2, 0);
    }

    private static void rowIs(String when, CloudStrings x, int first, int second, int third) {
        due(when + ", on the first", first, x.fewest(0, 1, 0));
        due(when + ", on the second", second, x.fewest(0, 1, 1));
        due(when + ", on the third", third, x.fewest(0, 1, 2));
        due(when + ", together", first + second + third, x.fewest(0, 1, -1));
    }

    /** Villages without string: every choice is as good as any other, so all pairs count. */
    private static void tugOfAll() {
        CloudStrings x = windy("u1");
        x.village(20, 0, 0);
        x.village(24, 0, 0);
        due("no cloud: none and none", 1, x.tug(0, 1, 1, 0));
        due("66", 66, x.tug(0, 1, 1, 1));
        for (int c = 0; c < 6; c++) {
            x.cloud(WHITE, 12, 9);
            due("pairs of " + (c + 1), (c + 2) * (c + 2), x.tug(0, 1, 12, 0));
            due("the first", 0, x.tug(1, 0, 12, 1));
        }
        x.join(5, 0);
        x.join(5, 1);
        due("two are away", 25, x.tug(0, 1, 12, 0));
        due("the first that is over the land", 22, x.tug(0, 1, 12, 1));
        x.pass(3);
        due("all are away", 0, x.count(0));
        due("none and none", 1, x.tug(0, 1, 12, 0));
        due("66", 66, x.tug(0, 1, 12, 1));
    }

    /** The wind takes what nobody holds off the village that has just one string, and holds the first cloud by it. */
    private static void letGo() {
        CloudStrings x = windy("r1");
        x.village(12, 1, 0);
        x.village(0, 0, 0);
        x.cloud(SMALL, 12, 99);
        x.cloud(SMALL, 12, 99);
        x.hold(0, 0, 1);
        due("the first or the second, by any of the other one", 6, x.tug(0, 1, 1, 0));
        due("the first pair", 0, x.tug(0, 1, 1, 1));
        due("the other way round", 6, x.tug(1, 0, 1, 0));
        x.sheet(0, BYTES, 3);
        x.item(0, BYTES, 0, 1);
        due("wet by 1: so, too", 6, x.held(1, 0, BYTES, 0, -1));
        x.item(0, BYTES, 0, 2);
        due("wet by 2: in no way", 0, x.held(1, 0, BYTES, 0, -1));
        due("dry: on none", 3, x.held(1, 0, BYTES, 1, -1));
        due("none", 6, x.held(1, 0, BYTES, 1, 0));
        due("it holds as it did", 1, x.holds(0, 0));
    }

    private static void heldOfAll() {
        CloudStrings x = windy("d1");
        x.village(0, 0, 0);
        x.village(1, 0, 0);
        x.village(2, 0, 0);
        x.village(3, 0, 0);
        x.sheet(0, BYTES, 4);
        for (int c = 0; c < 6; c++) {
            due("rows by " + c + " clouds", (c + 1) * (c + 1) * (c + 1) * (c + 1), x.held(12, 0, BYTES, 0, -1));
            due("the first's in the first row", c == 0 ? 6 : 0, x.held(12, 0, BYTES, 0, 0));
            due("the last's in the first row", c == 0 ? 6 : 0, x.held(12, 0, BYTES, 0, 3));
            x.cloud(WHITE, 12, 9);
        }
        due("rows by 6 clouds", 2401, x.held(1, 0, BYTES, 0, -1));
        x.join(5, 0);
        due("one is away", 1296, x.held(1, 0, BYTES, 0, -1));
        due("so the first row is of the next", 1, x.held(1, 0, BYTES, 0, 0));
        x.item(0, BYTES, 3, 1);
        due("one item is not so", 0, x.held(1, 0, BYTES, 0, -1));
        due("no first row", NONE, x.held(1, 0, BYTES, 0, 0));
        x.item(0, BYTES, 3, 0);
        x.pass(3);
        due("all are away", 1, x.held(1, 0, BYTES, 0, -1));
        due("none", 6, x.held(1, 0, BYTES, 0, 2));
    }

    private static void heldByFewer() {
        CloudStrings x = new CloudStrings();
        x.sheet(0, BYTES, 4);
        due("no village", NOT, x.held(1, 0, BYTES, 0, -1));
        due("no village, no first", NOT, x.held(1, 0, BYTES, 4, 0));
        for (int v = 0; v < 4; v++) {
            x.village(v, 0, 0);
            due("one row", 1, x.held(1, 0, BYTES, 3 - v, -1));
            for (int j = 0; j < 4; j++) {
                due(v + 1 + " villages, of village " + j, j <= v ? 6 : NONE, x.held(1, 0, BYTES, 3 - v, j));
            }
            due("one item is missing", INDEX, x.held(1, 0, BYTES, 4 - v, -1));
        }
    }

    // ---- DRAWN

    private static void drawnSentences() {
        says(17, "the lowest 31 bits of itself times 1103515245 and 12345 more");
        int[] seeds = {0, 1, 2, 65535, 65536, 1 << 30, Integer.MAX_VALUE - 1, Integer.MAX_VALUE, 1103527590};
        for (int seed : seeds) {
            CloudStrings x = new CloudStrings();
            x.seed(seed);
            long draw = seed;
            for (int hour = 0; hour < 50; hour++) {
                draw = (draw * 1103515245L + 12345L) % 2147483648L;
                x.drawn(1);
                due("seed " + seed + " hour " + hour, draw, x.seed((int) draw));
            }
            x.seed(seed);
            x.drawn(50);
            due("seed " + seed + ", 50 hours", draw, x.seed(1));
            due("the hours", 100, x.count(2));
        }
        says(17, "by 65536 (cut), as a remainder by 16, is 4 times the FORCE, and the SIDE, of the WIND");
        allDrawnWinds();
        says(17, "in place of WINDS; in each HOUR (of these)");
        drawnAlone();
    }

    /** Seeds are tried until each of the 16 winds has been drawn; what holds against it tells the force. */
    private static void allDrawnWinds() {
        boolean[] seen = new boolean[16];
        int[] goes = {7, 11, 13, 17};
        for (int seed = 0; seed < 200; seed++) {
            long draw = (seed * 1103515245L + 12345L) % 2147483648L;
            int wind = (int) (draw >> 16) & 15;
            if (seen[wind]) {
                continue;
            }
            seen[wind] = true;
            for (int held = 0; held < 4; held++) {
                CloudStrings x = windy("d3");
                x.village(0, 9, 0);
                x.village(1, 9, 0);
                x.cloud(THUNDER, 12, 99);
                x.hold(0, 0, held);
                x.hold(1, 0, held);
                x.seed(seed);
                x.drawn(1);
                int need = 2 * (wind / 4);
                int due = 2 * held >= need ? need == 0 && held > 0 ? 7 : 12 : goes[wind % 4];
                due("wind " + wind + " against " + 2 * held, due, x.told(0, 1));
            }
        }
        for (int wind = 0; wind < 16; wind++) {
            due("wind " + wind + " was drawn", true, seen[wind]);
        }
    }

    private static void drawnAlone() {
        CloudStrings x = windy("u1,d1");
        x.cloud(SMALL, 12, 99);
        x.village(24, 0, 0);
        x.seed(7);
        x.pass(1);
        x.wet(0, 24);
        x.where(0, 24, 0);
        due("pass and thoughts draw nothing", 7, x.seed(1));
        x.drawn(1);
        due("WINDS stay", 2, x.count(3));
        CloudStrings y = new CloudStrings();
        y.cloud(WHITE, 12, 999);
        y.seed(1);
        y.drawn(1);
        // 1103527590 by 65536 is 16838, as a remainder by 16 6: force 1, side 2
        due("without winds, too", 13, y.told(0, 1));
    }

    // ---- TEXT

    private static void textSentences() {
        says(13, "WINDS are a TEXT: 1 to 12 with , between");
        for (int size = 1; size <= 12; size++) {
            CloudStrings x = new CloudStrings();
            StringBuilder text = new StringBuilder("u1");
            for (int i = 1; i < size; i++) {
                text.append(",l2");
            }
            due(size + " winds", size, winds(x, text.toString()));
            due("how many", size, x.count(3));
            due("an end by a comma", -20 - text.length() - (size < 12 ? 1 : 0), winds(x, text + ","));
            due("those told stay", size, x.count(3));
        }
        says(13, "a letter u l r d (SIDES in this order) and a digit 0 .. 3 (FORCE)");
        everySign();
        says(13, "the first byte (behind blanks) that can't stand there (the end: how many bytes there are)");
        ends();
        says(13, "bytes 32 count for nothing");
        blanks();
        says(13, "THE TAPE, which is empty then (by a FAULT, too)");
        emptyThen();
        says(12, "come behind THE TAPE: how many it has; FULL: 48");
        fullTape();
    }

    private static void everySign() {
        for (int sign = 33; sign <= 126; sign++) {
            boolean isSide = "ulrd".indexOf(sign) >= 0;
            boolean isForce = sign >= '0' && sign <= '3';
            CloudStrings x = new CloudStrings();
            due(sign + " as a letter", isSide ? 1 : -20, winds(x, (char) sign + "1"));
            due(sign + " as a letter behind a comma", isSide ? 2 : -23, winds(x, "u1," + (char) sign + "1"));
            due(sign + " as a digit", isForce ? 1 : -21, winds(x, "u" + (char) sign));
            due(sign + " between", sign == ',' ? 2 : -22, winds(x, "u1" + (char) sign + "r2"));
        }
    }

    private static void ends() {
        textIs("", -20);
        String[] texts = {"u", "u1,", "u1,l", "u1,l2,"};
        for (String text : texts) {
            for (int blanks = 0; text.length() + blanks <= 48; blanks++) {
                textIs(text + " ".repeat(blanks), -20 - text.length() - blanks);
            }
        }
        for (int blanks = 1; blanks <= 48; blanks++) {
            textIs(" ".repeat(blanks), -20 - blanks);
            textIs(" ".repeat(blanks - 1) + "x", -20 - (blanks - 1));
        }
    }

    private static void textIs(String text, int fault) {
        CloudStrings x = new CloudStrings();
        due("'" + text + "'", fault, winds(x, text));
        due("none were told by '" + text + "'", 0, x.count(3));
    }

    private static void blanks() {
        CloudStrings x = new CloudStrings();
        due("everywhere", 2, winds(x, "  u  1  ,  l  2  "));
        due("they blow", 2, x.count(3));
        x.cloud(WHITE, 12, 9);
        due("u1 first", 7, x.where(0, 1, 0));
        due("l2 then", 6, x.where(0, 2, 0));
        due("12 winds and 12 blanks", 12, winds(x, " u0 ,u0 ,u0 ,u0 ,u0 ,u0 ,u0 ,u0 ,u0 ,u0 ,u0 ,u0"));
        due("behind the last, too", 1, winds(x, "d3" + " ".repeat(46)));
    }

    private static void emptyThen() {
        CloudStrings x = new CloudStrings();
        due("winds", 1, winds(x, "u1"));
        due("empty by winds", 1, x.type('l', 1));
        due("fault at the end", -21, x.winds());
        due("empty by a fault", 2, x.type('r' << 8 | '1', 2));
        due("winds", 1, x.winds());
        due("empty", -20, x.winds());
        due("those told stay", 1, x.count(3));
    }

    private static void fullTape() {
        for (int n = 1; n <= 8; n++) {
            CloudStrings x = typed(48 - n);
            due("up to just 48 by " + n, 48, x.type(0x2020202020202020L, n));
            due("one more", FULL, x.type(32, 1));
            due("48 blanks", -68, x.winds());
            CloudStrings y = typed(49 - n);
            due("49 by " + n, FULL, y.type(0x2020202020202020L, n));
            due("nothing of it came", -20 - (49 - n), y.winds());
        }
    }

    private static CloudStrings typed(int blanks) {
        CloudStrings x = new CloudStrings();
        for (int has = 1; has <= blanks; has++) {
            due("how many it has", has, x.type(32, 1));
        }
        return x;
    }

    // ---- SHEETS

    private static void sheetSentences() {
        says(27, "nothing (at first), or a row of a LANE, of 0 to 25 items");
        for (int lane = 0; lane < 3; lane++) {
            for (int n = 0; n <= 25; n++) {
                allItems(lane, n);
            }
        }
        says(29, "becomes v, its lowest bits; (all with a sign)");
        lowestBits();
        says(26, "What has FALLEN on FIELDS of a ROW comes to a SHEET likewise (its lowest bits)");
        filmLowestBits();
        says(30, "as if all were taken ahead");
        copyOverItself();
        says(24, "All is as it was then; NONE: there is none");
        imageOfAll();
    }

    private static void allItems(int lane, int n) {
        CloudStrings x = new CloudStrings();
        due("so many items", n, x.sheet(2, lane, n));
        x.village(0, 0, 0);
        for (int i = 0; i < n; i++) {
            due("item " + i + " of " + n + " is 0 at first", 1, x.held(1, 2, lane, i, -1));
            due("becomes 1", 1, x.item(2, lane, i, 1));
            due("is not 0 then", 0, x.held(1, 2, lane, i, -1));
        }
        due("no item " + n, INDEX, x.item(2, lane, n, 1));
        due("as many", n, x.sheet(2, lane, n));
        for (int i = 0; i < n; i++) {
            due("a new row is 0", 1, x.held(1, 2, lane, i, -1));
        }
        due("how many it had", n, x.drop(2));
        due("nothing", NULL, x.drop(2));
    }

    /** A village that is wet by 127, 128, .. sees the same in an item, or does not. */
    private static void lowestBits() {
        int[] wets = {0, 1, 127, 128, 255, 256};
        for (int wet : wets) {
            CloudStrings x = wetBy(wet);
            for (int lane = 0; lane < 3; lane++) {
                x.sheet(0, lane, 1);
                boolean fits = lane > 0 || wet < 128;
                long above = 1L << (8 << lane);
                itemBecomes(x, lane, wet, fits);
                itemBecomes(x, lane, wet + above, fits);
                itemBecomes(x, lane, wet - above, fits);
                itemBecomes(x, lane, wet + Long.MIN_VALUE, fits);
                itemBecomes(x, lane, wet + above / 2, false);
                itemBecomes(x, lane, wet - above / 2, false);
                itemBecomes(x, lane, wet + above - 1, false);
            }
        }
    }

    private static void itemBecomes(CloudStrings x, int lane, long v, boolean isSeen) {
        due("item of lane " + lane, 1, x.item(0, lane, 0, v));
        due(v + " in lane " + lane + " is as wet as is told", isSeen, x.held(1, 0, lane, 0, -1) > 0);
    }

    /** One village, in field 0, wet by so much; it gets no wetter. */
    private static CloudStrings wetBy(int wet) {
        CloudStrings x = new CloudStrings();
        x.village(0, 0, 0);
        if (wet > 0) {
            x.cloud(SMALL, 0, wet);
        }
        for (int h = 0; h < wet; h += 60) {
            x.pass(60);
        }
        due("wet", wet, x.of(0, 3));
        return x;
    }

    /** The village is as wet as the item is, if the item is not below 0. */
    private static void filmLowestBits() {
        int[] fallen = {1, 127, 128, 129, 255, 256, 257};
        for (int f : fallen) {
            for (int lane = 0; lane < 3; lane++) {
                CloudStrings x = wetBy(lane == 0 ? f & 127 : f);
                x.cloud(SMALL, 22, f);
                for (int h = 0; h < f; h += 60) {
                    x.pass(60);
                }
                x.sheet(0, lane, 5);
                due("5", 5, x.film(4, 0, lane, 0));
                boolean isBelow = lane == 0 && (f & 128) != 0;
                due(f + " in lane " + lane, !isBelow, x.held(1, 0, lane, 2, -1) > 0);
            }
        }
    }

    /** All ways to copy n items of a row of 5 onto itself; item i is 0 or not as told by a bit. */
    private static void copyOverItself() {
        for (int i = 0; i < 5; i++) {
            for (int j = 0; j < 5; j++) {
                for (int n = 0; n <= 5 - Math.max(i, j); n++) {
                    CloudStrings x = new CloudStrings();
                    x.village(0, 0, 0);
                    x.sheet(0, INTS, 5);
                    int[] row = {0, 1, 1, 0, 1};
                    for (int k = 0; k < 5; k++) {
                        x.item(0, INTS, k, row[k]);
                    }
                    int[] due = row.clone();
                    for (int k = 0; k < n; k++) {
                        due[j + k] = row[i + k];
                    }
                    String told = n + " from " + i + " to " + j;
                    due(told, n, x.copy(0, i, 0, j, n));
                    for (int k = 0; k < 5; k++) {
                        due(told + ", item " + k, 1 - due[k], x.held(1, 0, INTS, k, -1));
                    }
                }
            }
        }
    }

    private static void imageOfAll() {
        CloudStrings x = new CloudStrings();
        due("there is none", NONE, x.restore());
        due("an image of nothing", 1, x.image());
        x.village(0, 9, 9);
        x.cloud(WHITE, 0, 9);
        x.hold(0, 0, 9);
        winds(x, "u1");
        x.drawn(5);
        x.sheet(0, BYTES, 3);
        x.type('d', 1);
        due("restored", 1, x.restore());
        for (int what = 0; what < 8; what++) {
            due("count " + what, 0, x.count(what));
        }
        due("fallen", 0, x.fallen(0));
        due("no cloud", BAD, x.told(0, 0));
        due("no village", BAD, x.of(0, 0));
        due("the draw", 1, x.seed(1));
        due("the tape stays", 2, x.type('1', 1));
        due("the sheet stays", 3, x.drop(0));
        x.village(0, 9, 0);
        x.cloud(WHITE, 3, 9);
        due("who comes then holds nothing", 0, x.holds(0, 0));
        due("and what comes stays", 3, x.where(0, 1, 0));
        due("the image stays", 1, x.restore());
        due("again no village", 0, x.count(1));
    }
}
