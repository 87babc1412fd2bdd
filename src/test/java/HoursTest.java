/** Promises 16 to 20: hours that pass, and what would be. What is due was worked out by hand from the document. */
public final class HoursTest extends Due {
    public static void main(String[] args) {
        promise = 16;
        passing();
        pulling();
        drifting();
        goingAway();
        raining();
        lastHour();
        promise = 17;
        drawn();
        drawnForce();
        promise = 18;
        seed();
        promise = 19;
        wet();
        promise = 20;
        where();
        end();
    }

    private static void passing() {
        CloudStrings x = new CloudStrings();
        x.cloud(WHITE, 12, 5);
        due("0 hours", BAD, x.pass(0));
        due("61 hours", BAD, x.pass(61));
        for (int wrong : WRONG) {
            due(wrong + " hours", BAD, x.pass(wrong));
        }
        due("no hour has gone", 0, x.count(2));
        due("of an empty row nothing blows", 4, x.pass(2));
        due("two hours have gone", 2, x.count(2));
        due("as much as it has, at most", 1, x.pass(60));
        cloudIs("dry, but not away", x, 0, 12, 0, 0);
        due("62 hours have gone", 62, x.count(2));
    }

    private static void pulling() {
        CloudStrings x = new CloudStrings();
        x.village(24, 9, 0);
        x.village(0, 9, 0);
        x.cloud(WHITE, 2, 99);
        x.hold(0, 0, 2);
        x.hold(1, 0, 2);
        x.pass(1);
        due("of like ones the first pulls", 7, x.told(0, 1));
        x.hold(1, 0, 3);
        x.pass(1);
        due("by most", 2, x.told(0, 1));
        x.pass(1);
        due("by a column where rows are alike", 1, x.told(0, 1));
        x.pass(2);
        due("stays over the puller", 0, x.told(0, 1));
        x.hold(0, 0, 4);
        int[] way = {5, 10, 15, 20, 21, 22, 23, 24, 24};
        for (int hour = 0; hour < way.length; hour++) {
            x.pass(1);
            due("rows first, hour " + hour, way[hour], x.told(0, 1));
        }
        x.village(12, 9, 0);
        x.hold(2, 0, 2);
        x.pass(1);
        due("4 against 3 and 2 stays", 24, x.told(0, 1));
        x.hold(2, 0, 7);
        x.pass(1);
        due("7 against 7 is pulled", 19, x.told(0, 1));
        x.hold(2, 0, 6);
        x.pass(3);
        due("6 against 7 stays", 19, x.told(0, 1));
    }

    private static void drifting() {
        CloudStrings x = windy("r2");
        x.village(10, 9, 0);
        x.village(14, 9, 0);
        x.cloud(WHITE, 12, 99);
        x.cloud(THUNDER, 12, 99);
        x.cloud(SALT, 11, 99);
        x.cloud(SMALL, 2, 99);
        x.hold(1, 3, 1);
        x.hold(0, 3, 1);
        x.hold(0, 0, 1);
        x.hold(0, 1, 3);
        x.hold(0, 2, 2);
        x.pass(1);
        due("1 is less than the need of 2", 13, x.told(0, 1));
        due("3 is less than the need of 4", 13, x.told(1, 1));
        due("2 pulls against 2", 10, x.told(2, 1));
        due("1 and 1 hold a small one", 2, x.told(3, 1));
        x.hold(1, 0, 1);
        x.hold(1, 1, 1);
        x.pass(1);
        due("1 and 1 hold it", 13, x.told(0, 1));
        due("3 and 1 hold it", 13, x.told(1, 1));
        x.hold(0, 1, 5);
        x.pass(1);
        due("5 pulls against 1 and 4", 12, x.told(1, 1));
        due("salt over the puller stays", 10, x.told(2, 1));
        x.salt(1);
        x.hold(0, 1, 3);
        x.pass(1);
        due("salted, it has less weight", 11, x.told(1, 1));
        winds(x, "u0");
        x.hold(0, 0, 0);
        x.hold(1, 0, 0);
        x.pass(1);
        due("no force moves nothing", 13, x.told(0, 1));
    }

    private static void goingAway() {
        CloudStrings x = windy("u3");
        x.village(0, 5, 0);
        x.village(24, 6, 0);
        x.cloud(THUNDER, 2, 40);
        x.cloud(WHITE, 7, 40);
        x.hold(0, 0, 3);
        x.hold(1, 0, 2);
        x.hold(0, 1, 1);
        due("only the other one rains", 2, x.pass(1));
        cloudIs("away", x, 0, AWAY, 40, 0);
        due("the first has less", 2, x.of(0, 1));
        due("of which holds nothing", 1, x.of(0, 4));
        due("the second has less", 4, x.of(1, 1));
        due("nothing is held", 0, x.holds(0, 0));
        cloudIs("the other one", x, 1, 2, 38, 1);
        x.pass(1);
        due("the other one is away, too", AWAY, x.told(1, 1));
        due("and its string", 1, x.of(0, 1));
        due("none is left over the land", 0, x.count(0));
        due("nothing falls any more", 0, x.pass(9));
        due("nothing is lost", 40 + 38, x.count(5));
        String[] letters = {"u1", "l1", "r1", "d1"};
        int[] edges = {4, 20, 4, 24};
        for (int side = 0; side < 4; side++) {
            CloudStrings y = windy(letters[side]);
            y.cloud(SMALL, edges[side], 3);
            due("away by " + letters[side], 0, y.pass(1));
            cloudIs("away by " + letters[side], y, 0, AWAY, 3, 0);
        }
    }

    private static void raining() {
        CloudStrings x = new CloudStrings();
        x.village(12, 0, 0);
        x.village(13, 0, 0);
        int[] rains = {2, 1, 5, 1};
        for (int kind = 0; kind < 4; kind++) {
            x.cloud(kind, 12, 50);
        }
        due("all together", 9, x.pass(1));
        for (int kind = 0; kind < 4; kind++) {
            due("kind " + kind, 50 - rains[kind], x.told(kind, 2));
        }
        due("wet, but not by salt", 8, x.of(0, 3));
        due("another village stays dry", 0, x.of(1, 3));
        due("fallen, by salt too", 9, x.fallen(12));
        CloudStrings y = windy("r1");
        y.village(12, 0, 0);
        y.village(13, 0, 0);
        y.cloud(THUNDER, 12, 3);
        due("3 of 5", 3, y.pass(1));
        due("it goes first, then rains", 3, y.of(1, 3));
        due("not where it was", 0, y.of(0, 3));
    }

    private static void lastHour() {
        CloudStrings x = new CloudStrings();
        for (int i = 0; i < 166; i++) {
            x.pass(60);
        }
        due("hour", 9960, x.count(2));
        x.cloud(WHITE, 12, 999);
        due("above 9999", FULL, x.pass(40));
        due("drawn above 9999", FULL, x.drawn(40));
        due("bad ahead of full", BAD, x.pass(61));
        due("refused: nothing fell", 0, x.count(6));
        due("refused: the draw", 1, x.seed(1));
        due("up to 9998", 76, x.pass(38));
        x.seed(1);
        due("refused at 9998", FULL, x.drawn(2));
        x.image();
        due("9999 by winds that are drawn", true, x.drawn(1) >= 0);
        due("hour", 9999, x.count(2));
        x.restore();
        due("9999", 2, x.pass(1));
        due("hour", 9999, x.count(2));
        due("full", FULL, x.pass(1));
        due("drawn full", FULL, x.drawn(1));
        x.village(12, 0, 0);
        due("what would be is told all the same", 48, x.wet(0, 24));
    }

    private static void drawn() {
        CloudStrings x = windy("r1");
        x.seed(77);
        int[] step = {-5, -1, 1, 5};
        long draw = 77;
        x.cloud(THUNDER, 12, 999);
        int field = 12;
        for (int hour = 0; hour < 40; hour++) {
            draw = (draw * 1103515245L + 12345L) % 2147483648L;
            int wind = (int) (draw / 65536 % 16);
            int side = wind % 4;
            boolean away = field == AWAY || wind / 4 > 0 && (side == UP && field < 5 || side == LEFT && field % 5 == 0
                    || side == RIGHT && field % 5 == 4 || side == DOWN && field > 19);
            field = away ? AWAY : wind / 4 > 0 ? field + step[side] : field;
            due("rain in hour " + hour, away ? 0 : 5, x.drawn(1));
            due("field behind hour " + hour, field, x.told(0, 1));
            due("hours", hour + 1, x.count(2));
        }
        due("the draw", (int) draw, x.seed(1));
        due("winds stay", 1, x.count(3));
        CloudStrings y = new CloudStrings();
        y.cloud(SMALL, 12, 999);
        y.village(12, 9, 0);
        y.hold(0, 0, 9);
        due("60 hours", 60, y.drawn(60));
        due("0 hours", BAD, y.drawn(0));
        due("61 hours", BAD, y.drawn(61));
        for (int wrong : WRONG) {
            due(wrong + " hours", BAD, y.drawn(wrong));
        }
        due("60 have gone", 60, y.count(2));
    }

    /** The force that is drawn, seen by how many strings hold against it. */
    private static void drawnForce() {
        for (int seed = 0; seed < 60; seed++) {
            long draw = (seed * 1103515245L + 12345L) % 2147483648L;
            int force = (int) (draw / 65536 % 16) / 4;
            for (int strings = 0; strings < 4; strings++) {
                CloudStrings x = new CloudStrings();
                x.village(0, 4, 0);
                x.village(1, 4, 0);
                x.cloud(WHITE, 12, 9);
                x.hold(0, 0, strings / 2);
                x.hold(1, 0, strings - strings / 2);
                x.seed(seed);
                x.drawn(1);
                boolean pulled = strings == 1 && force <= 1 || strings == 2 && force == 0 || strings == 3 && force <= 1;
                boolean stays = !pulled && strings >= force;
                boolean stayed = x.told(0, 1) == 12;
                due("seed " + seed + " strings " + strings, stays ? 1 : 0, stayed ? 1 : 0);
            }
        }
    }

    private static void seed() {
        CloudStrings x = new CloudStrings();
        due("at first", 1, x.seed(0));
        due("0", 0, x.seed(2147483647));
        due("below 0", BAD, x.seed(-1));
        due("far below 0", BAD, x.seed(Integer.MIN_VALUE));
        due("31 bits", 2147483647, x.seed(1));
        x.drawn(1);
        due("behind an hour", 1103527590, x.seed(5));
        x.pass(1);
        due("other hours draw nothing", 5, x.seed(5));
        x.seed(2147483647);
        x.drawn(1);
        due("the lowest 31 bits", (int) ((2147483647L * 1103515245L + 12345L) % 2147483648L), x.seed(5));
    }

    private static void wet() {
        CloudStrings x = windy("l1,r1");
        x.village(10, 9, 0);
        x.village(12, 0, 0);
        x.cloud(WHITE, 12, 5);
        x.cloud(SMALL, 11, 99);
        x.pass(1);
        due("nobody is wet in hour 0", 1, x.of(0, 3) + x.of(1, 3));
        due("the next hour blows right", 1 + 0, x.wet(0, 1));
        due("and wets the second", 2, x.wet(1, 1));
        due("two hours", 2, x.wet(0, 2));
        due("it has only so much: 2 and 1 fell, 2 will", 2, x.wet(1, 24));
        due("24 hours", 13, x.wet(0, 24));
        due("nothing has changed", 1, x.count(2));
        due("nothing has fallen", 3, x.count(6));
        x.hold(0, 0, 3);
        due("as all is: it is held now", 3, x.wet(0, 1));
        due("not over the other any more", 0, x.wet(1, 24));
        x.pass(1);
        due("as was told", 3, x.of(0, 3));
        due("0 hours", BAD, x.wet(0, 0));
        due("25 hours", BAD, x.wet(0, 25));
        due("no such village", BAD, x.wet(2, 1));
        for (int wrong : WRONG) {
            due("village " + wrong, BAD, x.wet(wrong, 1));
            due(wrong + " hours", BAD, x.wet(0, wrong));
        }
    }

    private static void where() {
        CloudStrings x = windy("r1,d1");
        x.village(0, 5, 0);
        x.cloud(WHITE, 12, 9);
        x.hold(0, 0, 2);
        due("held, 1 hour", 7, x.where(0, 1, 0));
        due("held, 3 hours", 1, x.where(0, 3, 0));
        due("held, 24 hours", 0, x.where(0, 24, 0));
        due("let go, 1 hour", 13, x.where(0, 1, 1));
        due("let go, 2 hours", 18, x.where(0, 2, 1));
        due("let go, 4 hours", 24, x.where(0, 4, 1));
        due("let go, 5 hours", AWAY, x.where(0, 5, 1));
        due("let go, 24 hours", AWAY, x.where(0, 24, 1));
        due("nothing has changed", 2, x.holds(0, 0));
        due("it has its string", 5, x.of(0, 1));
        x.pass(1);
        due("from the next hour on", 12, x.where(0, 1, 1));
        x.cloud(WHITE, 7, 1);
        x.join(0, 1);
        due("away", AWAY, x.where(1, 1, 0));
        due("away, let go", AWAY, x.where(1, 24, 1));
        due("0 hours", BAD, x.where(0, 0, 0));
        due("25 hours", BAD, x.where(0, 25, 0));
        due("let 2", BAD, x.where(0, 1, 2));
        due("no such cloud", BAD, x.where(2, 1, 0));
        for (int wrong : WRONG) {
            due("cloud " + wrong, BAD, x.where(wrong, 1, 0));
            due(wrong + " hours", BAD, x.where(0, wrong, 0));
            due("let " + wrong, BAD, x.where(0, 1, wrong));
        }
    }
}
