/** Promises 1 to 15: clouds, villages, winds. What is due was worked out by hand from the document. */
public final class LandTest extends Due {
    public static void main(String[] args) {
        promise = 1;
        newObject();
        promise = 2;
        cloud();
        promise = 3;
        village();
        promise = 4;
        told();
        promise = 5;
        of();
        promise = 6;
        set();
        promise = 7;
        hold();
        promise = 8;
        holds();
        promise = 9;
        join();
        promise = 10;
        split();
        promise = 11;
        salt();
        promise = 12;
        type();
        promise = 13;
        windsAsText();
        windsInTurn();
        faults();
        promise = 14;
        fallen();
        promise = 15;
        count();
        end();
    }

    private static void newObject() {
        CloudStrings x = new CloudStrings();
        for (int what = 0; what < 8; what++) {
            due("count " + what, 0, x.count(what));
        }
        for (int field = 0; field < 25; field++) {
            due("fallen " + field, 0, x.fallen(field));
        }
        for (int sheet = 0; sheet < 4; sheet++) {
            due("drop " + sheet, NULL, x.drop(sheet));
        }
        due("told", BAD, x.told(0, 0));
        due("of", BAD, x.of(0, 0));
        due("restore", NONE, x.restore());
        due("winds of no tape", -20, x.winds());
        due("the draw", 1, x.seed(1));
        due("pass", 0, x.pass(60));
        CloudStrings y = new CloudStrings();
        x.cloud(WHITE, 0, 1);
        due("another object has its own clouds", 0, y.count(0));
    }

    private static void cloud() {
        CloudStrings x = new CloudStrings();
        for (int wrong : WRONG) {
            due("kind " + wrong, BAD, x.cloud(wrong, 0, 1));
            due("field " + wrong, BAD, x.cloud(0, wrong, 1));
            due("water " + wrong, BAD, x.cloud(0, 0, wrong));
        }
        due("kind 4", BAD, x.cloud(4, 0, 1));
        due("field 25", BAD, x.cloud(0, 25, 1));
        due("water 0", BAD, x.cloud(0, 0, 0));
        due("water 1000", BAD, x.cloud(0, 0, 1000));
        due("nothing has come", 0, x.count(0));
        due("first", 0, x.cloud(SALT, 24, 999));
        cloudIs("first", x, 0, 24, 999, 0);
        due("kind", SALT, x.told(0, 0));
        due("second over the same field", 1, x.cloud(THUNDER, 24, 1));
        due("joined", 999, x.join(0, 1));
        due("one that is away keeps its number", 2, x.cloud(WHITE, 0, 1));
        due("fourth", 3, x.cloud(WHITE, 1, 1));
        due("fifth", 4, x.cloud(WHITE, 2, 1));
        due("sixth", 5, x.cloud(WHITE, 3, 1));
        due("full", FULL, x.cloud(WHITE, 4, 1));
        due("bad ahead of full", BAD, x.cloud(4, 4, 1));
        due("how many are over", 5, x.count(0));
    }

    private static void village() {
        CloudStrings x = new CloudStrings();
        for (int wrong : WRONG) {
            due("field " + wrong, BAD, x.village(wrong, 0, 0));
            due("string " + wrong, BAD, x.village(0, wrong, 0));
            due("thirst " + wrong, BAD, x.village(0, 0, wrong));
        }
        due("field 25", BAD, x.village(25, 0, 0));
        due("string 10", BAD, x.village(0, 10, 0));
        due("thirst 100", BAD, x.village(0, 0, 100));
        due("nothing has come", 0, x.count(1));
        due("first", 0, x.village(24, 9, 99));
        due("same field", NOT, x.village(24, 0, 0));
        due("bad ahead of not", BAD, x.village(24, 10, 0));
        due("second", 1, x.village(0, 0, 0));
        due("third", 2, x.village(1, 1, 2));
        due("fourth", 3, x.village(2, 1, 2));
        due("full", FULL, x.village(3, 1, 2));
        due("not ahead of full", NOT, x.village(2, 1, 2));
        due("how many", 4, x.count(1));
        due("string", 9, x.of(0, 1));
        due("thirst", 99, x.of(0, 2));
    }

    private static void told() {
        CloudStrings x = new CloudStrings();
        x.village(0, 5, 0);
        x.village(1, 7, 0);
        x.cloud(THUNDER, 3, 77);
        x.hold(0, 0, 2);
        x.hold(1, 0, 6);
        due("kind", THUNDER, x.told(0, 0));
        cloudIs("held by two", x, 0, 3, 77, 8);
        due("what 4", BAD, x.told(0, 4));
        due("no such cloud", BAD, x.told(1, 0));
        for (int wrong : WRONG) {
            due("cloud " + wrong, BAD, x.told(wrong, 0));
            due("what " + wrong, BAD, x.told(0, wrong));
        }
        x.cloud(WHITE, 3, 5);
        x.join(1, 0);
        cloudIs("away", x, 0, AWAY, 0, 0);
        due("kind of one that is away", THUNDER, x.told(0, 0));
    }

    private static void of() {
        CloudStrings x = new CloudStrings();
        x.village(6, 7, 42);
        x.cloud(WHITE, 6, 9);
        x.cloud(WHITE, 8, 9);
        x.hold(0, 0, 3);
        x.hold(0, 1, 2);
        due("field", 6, x.of(0, 0));
        due("string", 7, x.of(0, 1));
        due("thirst", 42, x.of(0, 2));
        due("how wet", 0, x.of(0, 3));
        due("string that holds nothing", 2, x.of(0, 4));
        x.pass(1);
        due("wetter", 2, x.of(0, 3));
        due("what 5", BAD, x.of(0, 5));
        due("no such village", BAD, x.of(1, 0));
        for (int wrong : WRONG) {
            due("village " + wrong, BAD, x.of(wrong, 0));
            due("what " + wrong, BAD, x.of(0, wrong));
        }
    }

    private static void set() {
        CloudStrings x = new CloudStrings();
        x.village(6, 7, 42);
        x.cloud(WHITE, 6, 9);
        x.cloud(WHITE, 7, 9);
        x.hold(0, 0, 3);
        x.hold(0, 1, 2);
        due("thirst was", 42, x.set(0, 1, 99));
        due("thirst is", 99, x.of(0, 2));
        due("string was", 7, x.set(0, 0, 9));
        due("less than holds", NOT, x.set(0, 0, 4));
        due("refused", 9, x.of(0, 1));
        due("as much as holds", 9, x.set(0, 0, 5));
        due("none left", 0, x.of(0, 4));
        due("thirst is not bound by what holds", 99, x.set(0, 1, 0));
        due("string 10", BAD, x.set(0, 0, 10));
        due("thirst 10", 0, x.set(0, 1, 10));
        due("thirst 100", BAD, x.set(0, 1, 100));
        due("what 2", BAD, x.set(0, 2, 0));
        due("no such village", BAD, x.set(1, 0, 0));
        for (int wrong : WRONG) {
            due("village " + wrong, BAD, x.set(wrong, 0, 0));
            due("what " + wrong, BAD, x.set(0, wrong, 0));
            due("string " + wrong, BAD, x.set(0, 0, wrong));
            due("thirst " + wrong, BAD, x.set(0, 1, wrong));
        }
    }

    private static void hold() {
        CloudStrings x = new CloudStrings();
        x.village(6, 7, 0);
        x.cloud(WHITE, 0, 9);
        x.cloud(WHITE, 0, 9);
        due("first", 0, x.hold(0, 0, 3));
        due("too many", FULL, x.hold(0, 1, 5));
        due("refused", 0, x.holds(0, 1));
        due("all that is left", 0, x.hold(0, 1, 4));
        due("more on the first", FULL, x.hold(0, 0, 4));
        due("the same again", 3, x.hold(0, 0, 3));
        due("fewer", 4, x.hold(0, 1, 2));
        due("its own count anew", 3, x.hold(0, 0, 5));
        due("none", 5, x.hold(0, 0, 0));
        due("nine of seven", FULL, x.hold(0, 0, 9));
        due("ten", BAD, x.hold(0, 0, 10));
        due("no such cloud", BAD, x.hold(0, 2, 1));
        due("no such village", BAD, x.hold(1, 0, 1));
        for (int wrong : WRONG) {
            due("village " + wrong, BAD, x.hold(wrong, 0, 1));
            due("cloud " + wrong, BAD, x.hold(0, wrong, 1));
            due("strings " + wrong, BAD, x.hold(0, 0, wrong));
        }
        x.join(0, 1);
        due("away", NOT, x.hold(0, 1, 1));
        due("away, by none", NOT, x.hold(0, 1, 0));
        due("not ahead of full", NOT, x.hold(0, 1, 9));
        due("bad ahead of not", BAD, x.hold(0, 1, 10));
    }

    private static void holds() {
        CloudStrings x = new CloudStrings();
        x.village(6, 7, 0);
        x.village(7, 7, 0);
        x.cloud(WHITE, 0, 9);
        x.cloud(WHITE, 0, 9);
        x.hold(1, 0, 4);
        x.hold(0, 1, 5);
        due("second holds first", 4, x.holds(1, 0));
        due("first holds second", 5, x.holds(0, 1));
        due("first holds first", 0, x.holds(0, 0));
        x.join(0, 1);
        due("away", 0, x.holds(0, 1));
        due("no such cloud", BAD, x.holds(0, 2));
        due("no such village", BAD, x.holds(2, 0));
        for (int wrong : WRONG) {
            due("village " + wrong, BAD, x.holds(wrong, 0));
            due("cloud " + wrong, BAD, x.holds(0, wrong));
        }
    }

    private static void join() {
        CloudStrings x = new CloudStrings();
        x.village(12, 9, 0);
        x.cloud(SMALL, 12, 600);
        x.cloud(THUNDER, 12, 450);
        x.cloud(WHITE, 13, 5);
        x.hold(0, 0, 2);
        x.hold(0, 1, 4);
        due("one alike", BAD, x.join(0, 0));
        due("another field", NOT, x.join(0, 2));
        due("joined", 999, x.join(0, 1));
        cloudIs("joined", x, 0, 12, 999, 2);
        due("kind stays", SMALL, x.told(0, 0));
        cloudIs("the second", x, 1, AWAY, 0, 0);
        due("the rest falls", 51, x.fallen(12));
        due("and wets nobody", 0, x.of(0, 3));
        due("the village has its string still", 9, x.of(0, 1));
        due("which holds nothing", 7, x.of(0, 4));
        due("the second is away", NOT, x.join(0, 1));
        due("the first is away", NOT, x.join(1, 0));
        x.cloud(WHITE, 12, 1);
        due("full of water", 999, x.join(0, 3));
        due("all of the second falls", 52, x.fallen(12));
        due("both away", NOT, x.join(1, 3));
        x.cloud(WHITE, 13, 7);
        due("the higher number first", 12, x.join(4, 2));
        due("less than the limit: nothing falls", 0, x.fallen(13));
        due("no such cloud", BAD, x.join(0, 5));
        for (int wrong : WRONG) {
            due("first " + wrong, BAD, x.join(wrong, 0));
            due("second " + wrong, BAD, x.join(0, wrong));
            due("alike " + wrong, BAD, x.join(wrong, wrong));
        }
    }

    private static void split() {
        CloudStrings x = new CloudStrings();
        x.village(12, 9, 0);
        x.cloud(THUNDER, 7, 100);
        x.hold(0, 0, 4);
        due("as much as it has", NOT, x.split(0, 100));
        due("more than it has", NOT, x.split(0, 999));
        due("new cloud", 1, x.split(0, 99));
        cloudIs("what is left", x, 0, 7, 1, 4);
        cloudIs("the new one", x, 1, 7, 99, 0);
        due("its kind", THUNDER, x.told(1, 0));
        due("nothing fell", 0, x.count(6));
        due("water 0", BAD, x.split(1, 0));
        due("water 1000", BAD, x.split(1, 1000));
        due("no such cloud", BAD, x.split(2, 1));
        for (int wrong : WRONG) {
            due("cloud " + wrong, BAD, x.split(wrong, 1));
            due("water " + wrong, BAD, x.split(1, wrong));
        }
        x.join(1, 0);
        due("away", NOT, x.split(0, 1));
        for (int cloud = 2; cloud < 6; cloud++) {
            due("cloud " + cloud, cloud, x.split(1, 10));
        }
        due("full", FULL, x.split(1, 10));
        due("not ahead of full", NOT, x.split(1, 999));
        due("away, not ahead of full", NOT, x.split(0, 1));
        due("bad ahead of full", BAD, x.split(1, 0));
        due("refused", 60, x.told(1, 2));
    }

    private static void salt() {
        CloudStrings x = new CloudStrings();
        x.village(12, 0, 0);
        for (int kind = 0; kind < 4; kind++) {
            x.cloud(kind, 12, 20);
            due("kind before " + kind, kind, x.salt(kind));
            due("kind now " + kind, SALT, x.told(kind, 0));
        }
        due("all rain as small ones", 4, x.pass(1));
        due("nobody is wet", 0, x.of(0, 3));
        due("fallen", 4, x.fallen(12));
        x.cloud(WHITE, 12, 1);
        x.join(0, 4);
        due("away", NOT, x.salt(4));
        due("refused", WHITE, x.told(4, 0));
        due("no such cloud", BAD, x.salt(5));
        for (int wrong : WRONG) {
            due("cloud " + wrong, BAD, x.salt(wrong));
        }
    }

    private static void type() {
        CloudStrings x = new CloudStrings();
        due("n 0", BAD, x.type('u', 0));
        due("n 9", BAD, x.type(0x7575757575757575L, 9));
        for (int wrong : WRONG) {
            due("n " + wrong, BAD, x.type('u', wrong));
        }
        due("a byte 31", BAD, x.type(0x75311f75L, 4));
        due("a byte 127", BAD, x.type(0x7f757575L, 4));
        due("a byte 0", BAD, x.type('u', 2));
        due("a byte 128", BAD, x.type(0x80L, 1));
        due("a byte 255", BAD, x.type(-1L, 8));
        due("refused: nothing came", 1, x.type(32, 1));
        due("126", 2, x.type(126, 1));
        due("fault behind the blank", -21, x.winds());
        due("bytes above the n lowest count for nothing", 2, x.type(0x00ffff7531L, 2));
        due("the highest first", 1, x.winds());
        for (int i = 1; i <= 6; i++) {
            due("eight bytes, " + i, 8 * i, x.type(0x2020202020202020L, 8));
        }
        due("full", FULL, x.type(32, 1));
        due("bad ahead of full", BAD, x.type(31, 1));
        due("48 blanks", -68, x.winds());
        due("empty again", 8, x.type(0x2020202020202020L, 8));
        for (int i = 2; i <= 5; i++) {
            x.type(0x2020202020202020L, 8);
        }
        due("up to 41", 41, x.type(32, 1));
        due("49 would be too many", FULL, x.type(0x2020202020202020L, 8));
        due("48 are not", 48, x.type(0x20202020202020L, 7));
    }

    private static void windsAsText() {
        CloudStrings x = new CloudStrings();
        due("one", 1, winds(x, "u0"));
        due("how many", 1, x.count(3));
        due("three", 3, winds(x, "  u1 ,l  2,r3   "));
        due("in place of those told", 3, x.count(3));
        due("twelve", 12, winds(x, "u0,u1,u2,u3,l0,l1,l2,l3,r0,r1,r2,d3"));
        due("the tape is empty then", -20, x.winds());
        due("those told stay", 12, x.count(3));
        due("two", 2, winds(x, "d3,d0"));
        due("two are left", 2, x.count(3));
    }

    private static void windsInTurn() {
        String[] letters = {"u1", "l1", "r1", "d1"};
        int[] ends = {7, 11, 13, 17};
        for (int side = 0; side < 4; side++) {
            CloudStrings x = windy(letters[side]);
            x.cloud(WHITE, 12, 9);
            x.pass(1);
            due("blown by " + letters[side], ends[side], x.told(0, 1));
        }
        CloudStrings x = windy("r1,d1,r0");
        x.cloud(WHITE, 0, 99);
        int[] way = {1, 6, 6, 7, 12, 12, 13, 18};
        for (int hour = 0; hour < way.length; hour++) {
            x.pass(1);
            due("field behind hour " + hour, way[hour], x.told(0, 1));
        }
        due("new winds are taken by the same hour", 3, winds(x, "u1,l1,d1"));
        x.pass(1);
        due("hour 8 has 2 left over", 23, x.told(0, 1));
        due("force 3 is still one field", 1, winds(x, "u3"));
        x.pass(1);
        due("hour 9", 18, x.told(0, 1));
    }

    private static void faults() {
        String[] texts = {"", "   ", "U1", "x1", "1u", ",u1", "u", "u ", "u4", "uu", "u,", "u1u1", "u11", "u1 1", "u1;",
            "u1,", "u1, ", "u1,,u1", "  u1 , x", "u1,u/", "u1,u:", "u1.l2", "~", "u 1 , l",
            "u0,u1,u2,u3,l0,l1,l2,l3,r0,r1,r2,d3,", "u0,u1,u2,u3,l0,l1,l2,l3,r0,r1,r2,d3 ,u0"};
        int[] places = {0, 3, 0, 0, 0, 0, 1, 2, 1, 1, 1, 2, 2, 3, 2,
            3, 4, 3, 7, 4, 4, 2, 0, 7,
            35, 36};
        CloudStrings x = windy("r2,d1");
        for (int i = 0; i < texts.length; i++) {
            due("'" + texts[i] + "'", -20 - places[i], winds(x, texts[i]));
            due("the tape is empty then", -20, x.winds());
        }
        due("those told stay", 2, x.count(3));
        x.cloud(WHITE, 12, 1);
        x.pass(1);
        due("and blow", 13, x.told(0, 1));
    }

    private static void fallen() {
        CloudStrings x = windy("r1");
        x.cloud(THUNDER, 20, 12);
        x.cloud(WHITE, 19, 50);
        x.cloud(SALT, 21, 50);
        x.pass(2);
        due("first hour", 5, x.fallen(21));
        due("second hour, of two clouds", 5 + 1, x.fallen(22));
        due("of salt", 1, x.fallen(23));
        due("none where one went away", 0, x.fallen(19));
        x.pass(1);
        due("the last 2 of the first one", 1 + 2, x.fallen(23));
        due("of salt at the edge", 1, x.fallen(24));
        x.cloud(WHITE, 22, 999);
        x.cloud(WHITE, 22, 50);
        x.join(3, 4);
        due("by joining, too", 6 + 50, x.fallen(22));
        due("field 25", BAD, x.fallen(25));
        for (int wrong : WRONG) {
            due("field " + wrong, BAD, x.fallen(wrong));
        }
    }

    private static void count() {
        CloudStrings x = windy("r1,r2");
        x.village(0, 5, 1);
        x.village(1, 9, 2);
        x.cloud(WHITE, 4, 30);
        x.cloud(THUNDER, 0, 50);
        x.cloud(SMALL, 0, 7);
        x.pass(1);
        int[] due = {2, 2, 1, 2, 45 + 6, 30, 6, 14};
        for (int what = 0; what < 8; what++) {
            due("count " + what, due[what], x.count(what));
        }
        due("what 8", BAD, x.count(8));
        for (int wrong : WRONG) {
            due("what " + wrong, BAD, x.count(wrong));
        }
    }
}
