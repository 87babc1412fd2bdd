/**
 * The sentences of the document's Terms that name a boundary case, from THE LAND to TO SPLIT: each has a test of its
 * own, that bears its words. Where a sentence is about all fields, kinds or forces, all of them are tried.
 */
public final class LandEdgesTest extends Due {
    private static final int[] WEIGHT = {1, 1, 2, 1};
    private static final int[] RAIN = {2, 1, 5, 1};

    public static void main(String[] args) {
        landSentences();
        hourSentences();
        joinSentences();
        end();
    }

    // ---- THE LAND

    private static void landSentences() {
        says(1, "Blue sky, nobody");
        newObject();
        says(26, "FIELDS 0 .. 24: 5 times the ROW and the COLUMN (0 .. 4 each)");
        rowsAndColumns();
        says(13, "WINDS are a row (empty at first); of an empty row one of FORCE 0");
        emptyRow();
        says(13, "in HOUR h (0, 1 and so on) that blows which has as many ahead of it as h has left over by how many");
        windsInTurn();
        windsInLastHour();
        says(2, "CLOUDS 0 .. 5, as they come");
        sixClouds();
        says(3, "VILLAGES 0 .. 3, as they come, each in another FIELD");
        fourVillages();
        says(7, "all together by no more than it has");
        allTogether();
        says(6, "NOT: so much STRING holds CLOUDS already, and more");
        stringThatHolds();
        says(7, "HOLDS CLOUDS that are not AWAY");
        awayIsNotHeld();
        says(1, "An object is used for at most 512 calls");
        lastCall();
    }

    private static void newObject() {
        CloudStrings x = new CloudStrings();
        for (int what = 0; what < 8; what++) {
            due("count " + what, 0, x.count(what));
        }
        due("the draw is 1 at first", 1, x.seed(1));
        due("no image", NONE, x.restore());
        due("no tape", 1, x.type(32, 1));
        for (int sheet = 0; sheet < 4; sheet++) {
            due("nothing on sheet " + sheet, NULL, x.drop(sheet));
        }
    }

    /** One cloud of water 1 + field over each of six fields rains out there; all rows are filmed. */
    private static void rowsAndColumns() {
        for (int first = 0; first < 25; first += 6) {
            CloudStrings x = new CloudStrings();
            for (int c = 0; c < 6 && first + c < 25; c++) {
                x.cloud(THUNDER, first + c, first + c + 1);
            }
            x.pass(6);
            x.village(0, 0, 0);
            int wet = x.of(0, 3);
            due("the village comes behind the rain", 0, wet);
            for (int field = 0; field < 25; field++) {
                int due = field >= first && field < first + 6 ? field + 1 : 0;
                due("fallen on " + field, due, x.fallen(field));
            }
            for (int row = 0; row < 5; row++) {
                x.sheet(0, BYTES, 5);
                x.film(row, 0, BYTES, 0);
                for (int column = 0; column < 5; column++) {
                    int field = 5 * row + column;
                    boolean isDry = field < first || field >= first + 6;
                    due("row " + row + " column " + column, isDry, x.held(1, 0, BYTES, column, -1) > 0);
                }
            }
        }
    }

    private static void emptyRow() {
        CloudStrings x = new CloudStrings();
        x.village(0, 1, 0);
        for (int kind = 0; kind < 4; kind++) {
            x.cloud(kind, 4 + 5 * kind, 99);
        }
        x.pass(3);
        for (int kind = 0; kind < 4; kind++) {
            due("nothing blows kind " + kind, 4 + 5 * kind, x.told(kind, 1));
            due("nor will it", 4 + 5 * kind, x.where(kind, 24, 1));
        }
        x.hold(0, 2, 1);
        x.pass(1);
        due("1 string pulls against no need", 9, x.told(2, 1));
    }

    /** Twelve winds, then one; the twelfth is the only one that goes down. */
    private static void windsInTurn() {
        CloudStrings x = windy("r0,r0,r0,r0,r0,r0,r0,r0,r0,r0,r0,d1");
        x.cloud(SMALL, 2, 99);
        for (int hour = 0; hour < 30; hour++) {
            int field = 2 + 5 * (hour / 12);
            due("ahead of hour " + hour, field, x.told(0, 1));
            due("wind of hour " + hour, hour % 12 == 11 ? field + 5 : field, x.where(0, 1, 0));
            due("12 hours from hour " + hour, field + 5, x.where(0, 12, 0));
            due("24 hours from hour " + hour, field + 10, x.where(0, 24, 0));
            x.pass(1);
        }
        for (int size = 1; size <= 12; size++) {
            CloudStrings y = windy("r1,r0,r0,r0,r0,r0,r0,r0,r0,r0,r0,r0".substring(0, 3 * size - 1));
            y.cloud(SMALL, 0, 99);
            y.pass(size);
            due(size + " winds: one of them", 1, y.told(0, 1));
            y.pass(1);
            due(size + " winds: the first again", 2, y.told(0, 1));
        }
    }

    private static void windsInLastHour() {
        CloudStrings x = windy("u1,l1,r1,d1,u0");
        for (int i = 0; i < 166; i++) {
            x.pass(60);
        }
        x.pass(38);
        x.cloud(SMALL, 12, 9);
        due("hour 9998 has 3 left over by 5: d1", 17, x.where(0, 1, 0));
        due("hour 9999 has 4: u0", 17, x.where(0, 2, 0));
        due("hour 10000 has 0: u1", 12, x.where(0, 3, 0));
        x.pass(1);
        due("as was told", 17, x.told(0, 1));
    }

    private static void sixClouds() {
        CloudStrings x = new CloudStrings();
        for (int c = 0; c < 6; c++) {
            due("not yet", BAD, x.told(c, 0));
            due("cloud " + c, c, x.cloud(c % 4, 24 - c, 999 - c));
            due("its kind", c % 4, x.told(c, 0));
            cloudIs("as it comes", x, c, 24 - c, 999 - c, 0);
        }
        due("no seventh", FULL, x.cloud(0, 0, 1));
        due("no number 6", BAD, x.told(6, 0));
        due("six", 6, x.count(0));
    }

    private static void fourVillages() {
        CloudStrings x = new CloudStrings();
        for (int v = 0; v < 4; v++) {
            due("not yet", BAD, x.of(v, 0));
            due("village " + v, v, x.village(6 * v, 9 - v, 99 - v));
            due("the same field", NOT, x.village(6 * v, 9, 99));
            int[] due = {6 * v, 9 - v, 99 - v, 0, 9 - v};
            for (int what = 0; what < 5; what++) {
                due("of village " + v + " " + what, due[what], x.of(v, what));
            }
        }
        due("no fifth", FULL, x.village(24, 0, 0));
        due("no number 4", BAD, x.of(4, 0));
        due("four", 4, x.count(1));
    }

    private static void allTogether() {
        CloudStrings x = new CloudStrings();
        x.village(0, 9, 0);
        x.village(1, 9, 0);
        for (int c = 0; c < 6; c++) {
            x.cloud(WHITE, 3, 9);
        }
        int[] row = {2, 1, 0, 3, 1, 2};
        for (int c = 0; c < 6; c++) {
            due("cloud " + c, 0, x.hold(0, c, row[c]));
        }
        due("9 of 9: none is left", 0, x.of(0, 4));
        for (int c = 0; c < 6; c++) {
            due("one more on cloud " + c, FULL, x.hold(0, c, row[c] + 1));
            due("it holds as it did", row[c], x.hold(0, c, row[c]));
        }
        due("another village has its own", 0, x.hold(1, 3, 9));
        due("12 on one cloud", 12, x.told(3, 3));
        due("one less", 2, x.hold(0, 5, 1));
        due("leaves one", 1, x.of(0, 4));
        due("for another", 1, x.hold(0, 4, 2));
        due("none is left", 0, x.of(0, 4));
    }

    private static void stringThatHolds() {
        CloudStrings x = new CloudStrings();
        x.village(0, 9, 5);
        x.cloud(WHITE, 3, 9);
        x.cloud(WHITE, 4, 9);
        x.hold(0, 0, 4);
        x.hold(0, 1, 3);
        for (int v = 0; v < 7; v++) {
            due("string " + v, NOT, x.set(0, 0, v));
        }
        due("thirst is another number", 5, x.set(0, 1, 0));
        due("just what holds", 9, x.set(0, 0, 7));
        due("more again", 7, x.set(0, 0, 9));
        x.hold(0, 0, 0);
        x.hold(0, 1, 0);
        due("none at all", 9, x.set(0, 0, 0));
        due("no string", FULL, x.hold(0, 0, 1));
        due("none of none", 0, x.hold(0, 0, 0));
    }

    private static void awayIsNotHeld() {
        CloudStrings x = windy("u1");
        x.village(12, 9, 0);
        x.cloud(WHITE, 0, 9);
        x.pass(1);
        for (int n = 0; n < 10; n++) {
            due("blown away, by " + n, NOT, x.hold(0, 0, n));
        }
        due("held by none", 0, x.holds(0, 0));
        due("all is left", 9, x.of(0, 4));
    }

    private static void lastCall() {
        CloudStrings x = new CloudStrings();
        x.cloud(SMALL, 0, 999);
        for (int call = 1; call < 510; call++) {
            due("call " + call, 1, x.pass(1));
        }
        due("call 511", 999 - 509, x.told(0, 2));
        due("call 512", 509, x.count(2));
    }

    // ---- AN HOUR

    private static void hourSentences() {
        says(16, "NEED is FORCE times WEIGHT; above 0, and no less than the STRINGS of all others and NEED together");
        for (int kind = 0; kind < 4; kind++) {
            for (int force = 0; force < 4; force++) {
                pullHoldOrGo(kind, force);
            }
        }
        says(16, "The PULLER is the VILLAGE that HOLDS it by most STRING (first by numbers)");
        pullers();
        says(16, "by a ROW, if ROWS differ, else by a COLUMN, if these do (else it stays)");
        towardsAll();
        says(16, "one FIELD by the SIDE of the WIND; beyond the LAND it is AWAY");
        besidesAll();
        says(16, "all STRING that holds it is lost, too (VILLAGES have so much less)");
        stringIsLost();
        says(16, "each CLOUD that is not AWAY .. Then each that is not AWAY, by numbers, rains");
        awayForGood();
        says(16, "rains (as much as it has, at most): so much falls on its FIELD");
        rains();
        says(16, "the VILLAGE there is WETTER by it (not by SALT)");
        wetter();
    }

    /** The village of the second string is up, that of the first left, that of the third right; the wind goes down. */
    private static void pullHoldOrGo(int kind, int force) {
        int need = force * WEIGHT[kind];
        for (int a = 0; a < 10; a++) {
            for (int b = 0; b < 10; b++) {
                for (int c = 0; c < 4; c++) {
                    CloudStrings x = windy("d" + force);
                    x.village(10, 9, 0);
                    x.village(2, 9, 0);
                    x.village(14, 9, 0);
                    x.cloud(kind, 12, 99);
                    x.hold(0, 0, a);
                    x.hold(1, 0, b);
                    x.hold(2, 0, c);
                    int due = a + b + c >= need ? 12 : 17;
                    due = a > 0 && a >= b + c + need ? 11 : due;
                    due = b > 0 && b > a && b >= a + c + need ? 7 : due;
                    due = c > 0 && c > a && c > b && c >= a + b + need ? 13 : due;
                    String told = "kind " + kind + " force " + force + " strings " + a + " " + b + " " + c;
                    due(told + ", told", due, x.where(0, 1, 0));
                    x.pass(1);
                    due(told, due, x.told(0, 1));
                }
            }
        }
    }

    private static void pullers() {
        int[] homes = {2, 10, 14, 22};
        int[] goes = {7, 11, 13, 17};
        for (int first = 0; first < 4; first++) {
            for (int second = 0; second < 4; second++) {
                CloudStrings x = new CloudStrings();
                for (int home : homes) {
                    x.village(home, 9, 0);
                }
                x.cloud(WHITE, 12, 99);
                x.hold(first, 0, 4);
                x.hold(second, 0, 4);
                due("4 by " + first + " and " + second, goes[Math.min(first, second)], x.where(0, 1, 0));
                if (first != second) {
                    x.hold(first, 0, 3);
                    due("by one more, " + second, goes[second], x.where(0, 1, 0));
                }
            }
        }
    }

    private static void towardsAll() {
        for (int home = 0; home < 25; home++) {
            for (int from = 0; from < 25; from++) {
                CloudStrings x = windy("u1");
                x.village(home, 1, 0);
                x.cloud(SMALL, from, 99);
                x.hold(0, 0, 1);
                int due = from;
                if (home / 5 != from / 5) {
                    due = home / 5 < from / 5 ? from - 5 : from + 5;
                } else if (home != from) {
                    due = home < from ? from - 1 : from + 1;
                }
                due("from " + from + " to " + home, due, x.where(0, 1, 0));
                due("there in the end", home, x.where(0, 8, 0));
                due("and there it stays", home, x.where(0, 24, 0));
            }
        }
    }

    private static void besidesAll() {
        String[] sides = {"u", "l", "r", "d"};
        int[] step = {-5, -1, 1, 5};
        for (int side = 0; side < 4; side++) {
            for (int force = 1; force < 4; force++) {
                for (int from = 0; from < 25; from++) {
                    int[] left = {from / 5, from % 5, 4 - from % 5, 4 - from / 5};
                    CloudStrings x = windy(sides[side] + force);
                    x.cloud(force, from, 99);
                    int due = left[side] == 0 ? AWAY : from + step[side];
                    String told = sides[side] + force + " from " + from;
                    due(told + ", told", due, x.where(0, 1, 0));
                    due(told + ", beyond the edge", AWAY, x.where(0, left[side] + 1, 0));
                    if (left[side] > 0) {
                        due(told + ", at the edge", from + left[side] * step[side], x.where(0, left[side], 0));
                    }
                    due(told + ", rain", due == AWAY ? 0 : RAIN[force], x.pass(1));
                    due(told, due, x.told(0, 1));
                    due(told + ", over the land", due == AWAY ? 0 : 1, x.count(0));
                    due(told + ", water of it is kept", due == AWAY ? 99 : 0, x.count(5));
                }
            }
        }
    }

    private static void stringIsLost() {
        CloudStrings x = windy("d3");
        int[] holds = {2, 0, 1, 2};
        for (int v = 0; v < 4; v++) {
            x.village(v, 4, 0);
        }
        x.cloud(WHITE, 20, 99);
        x.cloud(THUNDER, 24, 99);
        x.cloud(SALT, 22, 99);
        for (int v = 0; v < 4; v++) {
            x.hold(v, 1, holds[v]);
            x.hold(v, 2, 1);
        }
        x.hold(1, 0, 2);
        due("5 of 6: it goes; 4 of 3: it stays; 2 of 3: it goes", 1, x.pass(1));
        for (int v = 0; v < 4; v++) {
            int lost = holds[v] + (v == 1 ? 2 : 0);
            due("string of " + v, 4 - lost, x.of(v, 1));
            due("that holds nothing", 3 - lost, x.of(v, 4));
            due("what it held is away", 0, x.holds(v, 0) + x.holds(v, 1));
            due("what it holds still", 1, x.holds(v, 2));
        }
        cloudIs("away with its water", x, 0, AWAY, 99, 0);
        cloudIs("away with its water", x, 1, AWAY, 99, 0);
        cloudIs("not away", x, 2, 22, 98, 4);
        due("string of all", 16 - 7, x.count(7));
        due("water over the land", 98, x.count(4));
        due("water that is away", 198, x.count(5));
        due("no more than it has", FULL, x.hold(0, 2, 3));
        due("all that it has", 1, x.hold(0, 2, 2));
    }

    private static void awayForGood() {
        CloudStrings x = windy("r1");
        x.cloud(THUNDER, 14, 99);
        due("it does not rain in the hour in which it goes", 0, x.pass(1));
        winds(x, "l1");
        due("nor does it come back", 0, x.pass(60));
        cloudIs("away", x, 0, AWAY, 99, 0);
        due("nor by a thought", AWAY, x.where(0, 24, 0));
        due("nothing fell", 0, x.count(6));
    }

    private static void rains() {
        for (int kind = 0; kind < 4; kind++) {
            for (int water = 1; water <= 11; water++) {
                CloudStrings x = new CloudStrings();
                x.cloud(kind, 12, water);
                int left = water;
                for (int hour = 0; hour < 3; hour++) {
                    int falls = Math.min(left, RAIN[kind]);
                    left -= falls;
                    String told = "kind " + kind + " water " + water + " hour " + hour;
                    due(told, falls, x.pass(1));
                    due(told + ": what is left", left, x.told(0, 2));
                    due(told + ": nothing is lost", water - left, x.fallen(12));
                }
                due("without water it is not away", 1, x.count(0));
                due("all that it had", left, x.pass(60));
                due("of n hours", 0, x.pass(1));
                due("water 0", 0, x.told(0, 2));
                due("over its field", 12, x.told(0, 1));
            }
        }
    }

    private static void wetter() {
        for (int kind = 0; kind < 4; kind++) {
            CloudStrings x = windy("r1,r0");
            x.village(13, 0, 0);
            x.village(12, 0, 0);
            x.village(14, 0, 0);
            x.cloud(kind, 12, 99);
            int falls = kind == SALT ? 0 : RAIN[kind];
            due("told", falls, x.wet(0, 1));
            x.pass(1);
            due("the village there", falls, x.of(0, 3));
            due("not that where it was, nor the next one", 0, x.of(1, 3) + x.of(2, 3));
            due("the field, of salt, too", RAIN[kind], x.fallen(13));
            x.salt(0);
            x.pass(1);
            due("not by salt", falls, x.of(0, 3));
            due("as a small one", RAIN[kind] + 1, x.fallen(13));
        }
    }

    // ---- TO JOIN, TO SPLIT

    private static void joinSentences() {
        says(9, "WATER of the second comes to the first (999 at most, the rest falls on the FIELD, and wets nobody)");
        int[][] waters = {{1, 1}, {998, 1}, {999, 1}, {500, 499}, {500, 500}, {1, 998}, {1, 999}, {999, 999}};
        for (int[] w : waters) {
            CloudStrings x = new CloudStrings();
            x.village(7, 9, 0);
            x.cloud(THUNDER, 7, w[0]);
            x.cloud(SMALL, 7, w[1]);
            int both = w[0] + w[1];
            due(w[0] + " and " + w[1], Math.min(999, both), x.join(0, 1));
            due("water of the first", Math.min(999, both), x.told(0, 2));
            due("the rest", Math.max(0, both - 999), x.fallen(7));
            due("of all", Math.max(0, both - 999), x.count(6));
            due("wets nobody", 0, x.of(0, 3));
            due("no water is away", 0, x.count(5));
        }
        says(9, "the second is AWAY without WATER, what held it holds nothing (VILLAGES have it still)");
        secondIsAway();
        says(9, "TO JOIN two CLOUDS over one FIELD");
        overOneField();
        says(10, "so much of its WATER is a new CLOUD of its KIND over the same FIELD, held by nobody");
        splitAll();
        says(10, "NOT: it .. has not more than that; FULL: 6");
        splitToTheLast();
    }

    private static void secondIsAway() {
        CloudStrings x = new CloudStrings();
        for (int v = 0; v < 4; v++) {
            x.village(v, 9, 0);
        }
        x.cloud(WHITE, 24, 10);
        x.cloud(THUNDER, 24, 20);
        for (int v = 0; v < 4; v++) {
            x.hold(v, 0, 1);
            x.hold(v, 1, v + 2);
        }
        x.join(0, 1);
        cloudIs("the second", x, 1, AWAY, 0, 0);
        cloudIs("the first", x, 0, 24, 30, 4);
        for (int v = 0; v < 4; v++) {
            due("holds nothing of it", 0, x.holds(v, 1));
            due("has it still", 9, x.of(v, 1));
            due("and free", 8, x.of(v, 4));
        }
        due("string of all", 36, x.count(7));
    }

    private static void overOneField() {
        CloudStrings x = windy("u1");
        x.cloud(WHITE, 0, 10);
        x.cloud(WHITE, 4, 10);
        x.cloud(WHITE, 9, 10);
        x.cloud(WHITE, 8, 10);
        x.pass(1);
        due("both are away, as far as that one place", NOT, x.join(0, 1));
        due("the first is away", NOT, x.join(0, 2));
        due("the second is away", NOT, x.join(2, 0));
        due("two fields", NOT, x.join(2, 3));
        due("all as it was", 20 + 16, x.count(4) + x.count(5));
        x.cloud(SALT, 4, 1);
        due("over one field", 9, x.join(2, 4));
    }

    private static void splitAll() {
        for (int kind = 0; kind < 4; kind++) {
            CloudStrings x = new CloudStrings();
            x.village(1, 9, 0);
            x.cloud(kind, 24, 999);
            x.hold(0, 0, 5);
            due("by 1", 1, x.split(0, 1));
            due("by all but 1", 2, x.split(0, 997));
            cloudIs("what is left", x, 0, 24, 1, 5);
            cloudIs("the first new one", x, 1, 24, 1, 0);
            cloudIs("the second new one", x, 2, 24, 997, 0);
            due("its kind", kind, x.told(0, 0));
            due("kind of the first new one", kind, x.told(1, 0));
            due("kind of the second new one", kind, x.told(2, 0));
            due("of 1 nothing can be split", NOT, x.split(1, 1));
            due("nothing is lost", 999, x.count(4));
            due("nothing falls", 0, x.count(6));
        }
    }

    private static void splitToTheLast() {
        CloudStrings x = new CloudStrings();
        x.cloud(WHITE, 3, 8);
        int[] tooMuch = {8, 9, 10, 100, 998, 999};
        for (int water : tooMuch) {
            due("8 by " + water, NOT, x.split(0, water));
        }
        CloudStrings y = new CloudStrings();
        y.cloud(SMALL, 3, 8);
        for (int cloud = 1; cloud < 6; cloud++) {
            due("by 1", cloud, y.split(0, 1));
        }
        due("full", FULL, y.split(0, 1));
        due("full, by 2", FULL, y.split(0, 2));
        due("has 3, not more", NOT, y.split(0, 3));
        y.pass(3);
        due("without water it has not more", NOT, y.split(0, 1));
        due("without water it can be joined", 0, y.join(0, 1));
    }
}
