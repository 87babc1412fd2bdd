import java.util.ArrayList;
import java.util.List;

/**
 * Long runs of calls, the same ones each time, on the program and on a model that was written apart from it: the
 * model lets whole lands go through their hours, and tries out all rows, where the program takes shorter ways.
 */
public final class ModelTest extends Due {
    private static final int RUNS = 500;
    private static final int CALLS = 512;
    private static long random;

    public static void main(String[] args) {
        for (int run = 0; run < RUNS; run++) {
            random = 1000003L * run + 17;
            int before = failures();
            compare(run);
            if (failures() > before) {
                break;
            }
        }
        end();
    }

    private static int below(int n) {
        random = random * 6364136223846793005L + 1442695040888963407L;
        return (int) ((random >>> 33) % n);
    }

    /** A number from least to most, seldom one that is just outside, or far. */
    private static int some(int least, int most) {
        int odd = below(60);
        if (odd == 0) {
            int[] far = {least - 1, most + 1, -1, Integer.MIN_VALUE, Integer.MAX_VALUE, most + 2};
            return far[below(far.length)];
        }
        return least + below(most - least + 1);
    }

    private static void compare(int run) {
        CloudStrings x = new CloudStrings();
        Model m = new Model();
        List<String> calls = new ArrayList<>();
        int crowd = below(3);
        for (int call = 0; call < CALLS; call++) {
            StringBuilder told = new StringBuilder();
            int[] answers = new int[2];
            boolean start = call < 14;
            int which = start ? below(crowd == 0 ? 3 : 2) : below(30);
            doCall(which, x, m, told, answers);
            calls.add(told + " = " + answers[0]);
            due("run " + run + " call " + call + ": " + told, answers[1], answers[0]);
            if (answers[0] != answers[1]) {
                for (String c : calls) {
                    System.out.println("  " + c);
                }
                return;
            }
            if (call % 40 == 39 && !isAlike(run, x, m)) {
                return;
            }
        }
    }

    private static boolean isAlike(int run, CloudStrings x, Model m) {
        int before = failures();
        for (int c = 0; c < 6; c++) {
            for (int what = 0; what < 4; what++) {
                due("run " + run + " told", m.told(c, what), x.told(c, what));
                due("run " + run + " holds", m.holds(what, c), x.holds(what, c));
            }
        }
        for (int v = 0; v < 4; v++) {
            for (int what = 0; what < 5; what++) {
                due("run " + run + " of", m.of(v, what), x.of(v, what));
            }
        }
        for (int field = 0; field < 25; field++) {
            due("run " + run + " fallen", m.fallen(field), x.fallen(field));
        }
        for (int what = 0; what < 8; what++) {
            due("run " + run + " count", m.count(what), x.count(what));
        }
        return failures() == before;
    }

    private static String[] texts() {
        return new String[] {"u1", "l1,r1", "d2,u1,l3", "r0", "r1 , d1", "r3,l2,u1,d1", "u", "u1,", "x", " ", "u1,l2,r3,d0,u2",
            "u1,u1,u1,u1,u1,u1,u1,u1,u1,u1,u1,u1", "u1u1", "l1,d2,", "d1"};
    }

    private static void doCall(int which, CloudStrings x, Model m, StringBuilder told, int[] answers) {
        if (which < 12) {
            landCall(which, x, m, told, answers);
        } else if (which < 21) {
            hourCall(which, x, m, told, answers);
        } else {
            sheetCall(which, x, m, told, answers);
        }
    }

    private static void note(StringBuilder told, String name, long... args) {
        told.append(name).append('(');
        for (int i = 0; i < args.length; i++) {
            told.append(i == 0 ? "" : ", ").append(args[i]);
        }
        told.append(')');
    }

    private static void landCall(int which, CloudStrings x, Model m, StringBuilder told, int[] answers) {
        int a = some(0, 5);
        int b = some(0, 5);
        int v = some(0, 3);
        int n = some(0, 9);
        switch (which) {
            case 0: {
                int water = below(3) == 0 ? some(1, 999) : some(1, 40);
                int field = some(0, 24);
                int kind = some(0, 3);
                note(told, "cloud", kind, field, water);
                answers[0] = x.cloud(kind, field, water);
                answers[1] = m.cloud(kind, field, water);
                break;
            }
            case 1: {
                int field = some(0, 24);
                int thirst = below(2) == 0 ? some(0, 99) : some(0, 20);
                note(told, "village", field, n, thirst);
                answers[0] = x.village(field, n, thirst);
                answers[1] = m.village(field, n, thirst);
                break;
            }
            case 2: {
                typeText(texts()[below(texts().length)], x, m, told, answers);
                break;
            }
            case 3: {
                int what = some(0, 1);
                int value = below(2) == 0 ? n : some(0, 99);
                note(told, "set", v, what, value);
                answers[0] = x.set(v, what, value);
                answers[1] = m.set(v, what, value);
                break;
            }
            case 4:
            case 5:
            case 6: {
                int few = below(2) == 0 ? some(0, 4) : n;
                note(told, "hold", v, a, few);
                answers[0] = x.hold(v, a, few);
                answers[1] = m.hold(v, a, few);
                break;
            }
            case 7: {
                note(told, "join", a, b);
                answers[0] = x.join(a, b);
                answers[1] = m.join(a, b);
                break;
            }
            case 8: {
                int water = below(4) == 0 ? some(1, 999) : some(1, 20);
                note(told, "split", a, water);
                answers[0] = x.split(a, water);
                answers[1] = m.split(a, water);
                break;
            }
            case 9: {
                if (below(4) == 0) {
                    note(told, "salt", a);
                    answers[0] = x.salt(a);
                    answers[1] = m.salt(a);
                } else {
                    int what = some(0, 7);
                    note(told, "count", what);
                    answers[0] = x.count(what);
                    answers[1] = m.count(what);
                }
                break;
            }
            case 10: {
                long w = ((long) some(32, 126) << 8 | some(32, 126)) << 16 | 0x7531;
                int size = below(6) == 0 ? some(0, 9) : some(1, 4);
                note(told, "type", w, size);
                answers[0] = x.type(w, size);
                answers[1] = m.type(w, size);
                break;
            }
            default: {
                note(told, "winds");
                answers[0] = x.winds();
                answers[1] = m.winds();
                break;
            }
        }
    }

    private static void typeText(String text, CloudStrings x, Model m, StringBuilder told, int[] answers) {
        for (int at = 0; at < text.length(); at += 8) {
            int end = Math.min(at + 8, text.length());
            long w = 0;
            for (int i = at; i < end; i++) {
                w = w << 8 | text.charAt(i);
            }
            note(told, "type", w, end - at);
            answers[0] = answers[0] * 31 + x.type(w, end - at);
            answers[1] = answers[1] * 31 + m.type(w, end - at);
        }
        note(told, "winds");
        answers[0] = answers[0] * 31 + x.winds();
        answers[1] = answers[1] * 31 + m.winds();
    }

    private static void hourCall(int which, CloudStrings x, Model m, StringBuilder told, int[] answers) {
        int v = some(0, 3);
        int n = some(1, 12);
        switch (which) {
            case 12: {
                int hours = below(40) == 0 ? some(1, 60) : some(1, 2);
                note(told, "pass", hours);
                answers[0] = x.pass(hours);
                answers[1] = m.pass(hours);
                break;
            }
            case 13: {
                int hours = below(40) == 0 ? some(1, 60) : 1;
                note(told, "drawn", hours);
                answers[0] = x.drawn(hours);
                answers[1] = m.drawn(hours);
                break;
            }
            case 14: {
                int seed = below(5) == 0 ? some(0, 3) : below(Integer.MAX_VALUE);
                note(told, "seed", seed);
                answers[0] = x.seed(seed);
                answers[1] = m.seed(seed);
                break;
            }
            case 15: {
                int hours = some(1, 24);
                note(told, "wet", v, hours);
                answers[0] = x.wet(v, hours);
                answers[1] = m.wet(v, hours);
                break;
            }
            case 16: {
                int c = some(0, 5);
                int hours = some(1, 24);
                int let = some(0, 1);
                note(told, "where", c, hours, let);
                answers[0] = x.where(c, hours, let);
                answers[1] = m.where(c, hours, let);
                break;
            }
            case 17: {
                int i = some(-1, 5);
                note(told, "fewest", v, n, i);
                answers[0] = x.fewest(v, n, i);
                answers[1] = m.fewest(v, n, i);
                break;
            }
            case 18: {
                int b = some(0, 3);
                int what = some(0, 1);
                note(told, "tug", v, b, n, what);
                answers[0] = x.tug(v, b, n, what);
                answers[1] = m.tug(v, b, n, what);
                break;
            }
            case 19: {
                note(told, "image");
                if (below(2) == 0) {
                    answers[0] = x.image();
                    answers[1] = m.image();
                }
                break;
            }
            default: {
                note(told, "restore");
                answers[0] = x.restore();
                answers[1] = m.restore();
                break;
            }
        }
    }

    private static void sheetCall(int which, CloudStrings x, Model m, StringBuilder told, int[] answers) {
        int sheet = some(0, 3);
        int lane = below(5) == 0 ? some(0, 2) : m.laneOf(sheet);
        int i = some(0, 7);
        switch (which) {
            case 21:
            case 22:
            case 23: {
                int n = some(1, 12);
                int j = some(-1, 3);
                if (below(4) != 0) {
                    tellOneWay(n, sheet, lane, x, m);
                    i = 0;
                }
                note(told, "held", n, sheet, lane, i, j);
                answers[0] = x.held(n, sheet, lane, i, j);
                answers[1] = m.held(n, sheet, lane, i, j);
                break;
            }
            case 24: {
                int row = some(0, 4);
                note(told, "film", row, sheet, lane, i);
                answers[0] = x.film(row, sheet, lane, i);
                answers[1] = m.film(row, sheet, lane, i);
                break;
            }
            case 25:
            case 26: {
                int n = below(4) == 0 ? some(0, 25) : some(4, 8);
                int to = some(0, 2);
                note(told, "sheet", sheet, to, n);
                answers[0] = x.sheet(sheet, to, n);
                answers[1] = m.sheet(sheet, to, n);
                break;
            }
            case 27: {
                if (below(6) == 0) {
                    note(told, "drop", sheet);
                    answers[0] = x.drop(sheet);
                    answers[1] = m.drop(sheet);
                }
                break;
            }
            case 28: {
                long value = below(2) == 0 ? below(10) : random;
                note(told, "item", sheet, lane, i, value);
                answers[0] = x.item(sheet, lane, i, value);
                answers[1] = m.item(sheet, lane, i, value);
                break;
            }
            default: {
                int to = some(0, 3);
                int j = some(0, 7);
                int n = some(0, 5);
                note(told, "copy", sheet, i, to, j, n);
                answers[0] = x.copy(sheet, i, to, j, n);
                answers[1] = m.copy(sheet, i, to, j, n);
                break;
            }
        }
    }

    /** Tells how wet all would be by one row, so that there is one that held has to find. */
    private static void tellOneWay(int n, int sheet, int lane, CloudStrings x, Model m) {
        if (n < 1 || n > 12) {
            return;
        }
        int[] wet = m.wetByChoices(n, new int[] {below(7), below(7), below(7), below(7)});
        for (int v = 0; v < wet.length; v++) {
            x.item(sheet, lane, v, wet[v]);
            m.item(sheet, lane, v, wet[v]);
        }
    }

    private static final class Cloud {
        int kind;
        int row;
        int column;
        boolean away;
        int water;
        int[] heldBy = new int[4];

        Cloud twin() {
            Cloud t = new Cloud();
            t.kind = kind;
            t.row = row;
            t.column = column;
            t.away = away;
            t.water = water;
            t.heldBy = heldBy.clone();
            return t;
        }

        int field() {
            return away ? 25 : 5 * row + column;
        }

        int strings() {
            return heldBy[0] + heldBy[1] + heldBy[2] + heldBy[3];
        }
    }

    private static final class Village {
        int field;
        int string;
        int thirst;
        int wet;

        Village twin() {
            Village t = new Village();
            t.field = field;
            t.string = string;
            t.thirst = thirst;
            t.wet = wet;
            return t;
        }
    }

    private static final class World {
        List<Cloud> clouds = new ArrayList<>();
        List<Village> villages = new ArrayList<>();
        String winds = "";
        int[] fallen = new int[25];
        int hour;
        long draw = 1;

        World twin() {
            World t = new World();
            for (Cloud c : clouds) {
                t.clouds.add(c.twin());
            }
            for (Village v : villages) {
                t.villages.add(v.twin());
            }
            t.winds = winds;
            t.fallen = fallen.clone();
            t.hour = hour;
            t.draw = draw;
            return t;
        }

        int tied(int village) {
            int sum = 0;
            for (Cloud c : clouds) {
                sum += c.heldBy[village];
            }
            return sum;
        }

        int windHour() {
            if (winds.isEmpty()) {
                return blow('u', 0);
            }
            int at = 2 * (hour % (winds.length() / 2));
            return blow(winds.charAt(at), winds.charAt(at + 1) - '0');
        }

        int drawnHour() {
            draw = (draw * 1103515245L + 12345L) & ((1L << 31) - 1);
            int wind = (int) ((draw >> 16) & 15);
            return blow("ulrd".charAt(wind & 3), wind >> 2);
        }

        int blow(char side, int force) {
            for (Cloud c : clouds) {
                if (!c.away) {
                    go(c, side, force * (c.kind == 2 ? 2 : 1));
                }
            }
            int falls = 0;
            for (Cloud c : clouds) {
                if (!c.away) {
                    int wanted = c.kind == 0 ? 2 : c.kind == 2 ? 5 : 1;
                    int rain = wanted < c.water ? wanted : c.water;
                    c.water -= rain;
                    fallen[c.field()] += rain;
                    falls += rain;
                    for (Village v : villages) {
                        if (v.field == c.field() && c.kind != 3) {
                            v.wet += rain;
                        }
                    }
                }
            }
            hour++;
            return falls;
        }

        void go(Cloud c, char side, int need) {
            int puller = -1;
            int best = 0;
            for (int v = villages.size() - 1; v >= 0; v--) {
                if (c.heldBy[v] >= best && c.heldBy[v] > 0) {
                    best = c.heldBy[v];
                    puller = v;
                }
            }
            int others = c.strings() - best;
            if (puller >= 0 && best >= others + need) {
                int row = villages.get(puller).field / 5;
                int column = villages.get(puller).field % 5;
                if (row < c.row) {
                    c.row--;
                } else if (row > c.row) {
                    c.row++;
                } else if (column < c.column) {
                    c.column--;
                } else if (column > c.column) {
                    c.column++;
                }
                return;
            }
            if (c.strings() >= need) {
                return;
            }
            c.row += side == 'u' ? -1 : side == 'd' ? 1 : 0;
            c.column += side == 'l' ? -1 : side == 'r' ? 1 : 0;
            if (c.row < 0 || c.row > 4 || c.column < 0 || c.column > 4) {
                c.away = true;
                for (int v = 0; v < villages.size(); v++) {
                    villages.get(v).string -= c.heldBy[v];
                    c.heldBy[v] = 0;
                }
            }
        }
    }

    private static final class Model {
        World world = new World();
        World image;
        String tape = "";
        long[][] items = new long[4][];
        int[] lanes = new int[4];

        boolean noCloud(int c) {
            return c < 0 || c >= world.clouds.size();
        }

        boolean noVillage(int v) {
            return v < 0 || v >= world.villages.size();
        }

        static boolean out(long x, long least, long most) {
            return !(x >= least && x <= most);
        }

        int laneOf(int sheet) {
            return out(sheet, 0, 3) ? 0 : lanes[sheet];
        }

        int cloud(int kind, int field, int water) {
            if (out(kind, 0, 3) || out(field, 0, 24) || out(water, 1, 999)) {
                return BAD;
            }
            if (world.clouds.size() == 6) {
                return FULL;
            }
            Cloud c = new Cloud();
            c.kind = kind;
            c.row = field / 5;
            c.column = field % 5;
            c.water = water;
            world.clouds.add(c);
            return world.clouds.size() - 1;
        }

        int village(int field, int string, int thirst) {
            if (out(field, 0, 24) || out(string, 0, 9) || out(thirst, 0, 99)) {
                return BAD;
            }
            for (Village v : world.villages) {
                if (v.field == field) {
                    return NOT;
                }
            }
            if (world.villages.size() == 4) {
                return FULL;
            }
            Village v = new Village();
            v.field = field;
            v.string = string;
            v.thirst = thirst;
            world.villages.add(v);
            return world.villages.size() - 1;
        }

        int told(int cloud, int what) {
            if (noCloud(cloud) || out(what, 0, 3)) {
                return BAD;
            }
            Cloud c = world.clouds.get(cloud);
            return new int[] {c.kind, c.field(), c.water, c.strings()}[what];
        }

        int of(int village, int what) {
            if (noVillage(village) || out(what, 0, 4)) {
                return BAD;
            }
            Village v = world.villages.get(village);
            return new int[] {v.field, v.string, v.thirst, v.wet, v.string - world.tied(village)}[what];
        }

        int set(int village, int what, int value) {
            if (noVillage(village) || out(what, 0, 1) || out(value, 0, what == 0 ? 9 : 99)) {
                return BAD;
            }
            Village v = world.villages.get(village);
            if (what == 0) {
                if (world.tied(village) > value) {
                    return NOT;
                }
                int was = v.string;
                v.string = value;
                return was;
            }
            int was = v.thirst;
            v.thirst = value;
            return was;
        }

        int hold(int village, int cloud, int n) {
            if (noVillage(village) || noCloud(cloud) || out(n, 0, 9)) {
                return BAD;
            }
            Cloud c = world.clouds.get(cloud);
            if (c.away) {
                return NOT;
            }
            int was = c.heldBy[village];
            c.heldBy[village] = n;
            if (world.tied(village) > world.villages.get(village).string) {
                c.heldBy[village] = was;
                return FULL;
            }
            return was;
        }

        int holds(int village, int cloud) {
            return noVillage(village) || noCloud(cloud) ? BAD : world.clouds.get(cloud).heldBy[village];
        }

        int join(int a, int b) {
            if (noCloud(a) || noCloud(b) || a == b) {
                return BAD;
            }
            Cloud first = world.clouds.get(a);
            Cloud second = world.clouds.get(b);
            if (first.away || second.away || first.field() != second.field()) {
                return NOT;
            }
            while (second.water > 0) {
                second.water--;
                if (first.water < 999) {
                    first.water++;
                } else {
                    world.fallen[first.field()]++;
                }
            }
            second.away = true;
            second.heldBy = new int[4];
            return first.water;
        }

        int split(int cloud, int water) {
            if (noCloud(cloud) || out(water, 1, 999)) {
                return BAD;
            }
            Cloud c = world.clouds.get(cloud);
            if (c.away || !(c.water > water)) {
                return NOT;
            }
            int answer = cloud(c.kind, c.field(), water);
            c.water -= answer == FULL ? 0 : water;
            return answer;
        }

        int salt(int cloud) {
            if (noCloud(cloud)) {
                return BAD;
            }
            Cloud c = world.clouds.get(cloud);
            if (c.away) {
                return NOT;
            }
            int was = c.kind;
            c.kind = 3;
            return was;
        }

        int type(long w, int n) {
            if (out(n, 1, 8)) {
                return BAD;
            }
            String more = "";
            for (int i = 0; i < n; i++) {
                long sign = (w >> 8 * i) & 255;
                if (out(sign, 32, 126)) {
                    return BAD;
                }
                more = (char) sign + more;
            }
            if (tape.length() + n > 48) {
                return FULL;
            }
            tape += more;
            return tape.length();
        }

        int winds() {
            String text = tape;
            tape = "";
            String read = "";
            int at = blanks(text, 0);
            for (int wind = 1; ; wind++) {
                if (at == text.length() || "ulrd".indexOf(text.charAt(at)) < 0) {
                    return -20 - at;
                }
                read += text.charAt(at);
                at = blanks(text, at + 1);
                if (at == text.length() || "0123".indexOf(text.charAt(at)) < 0) {
                    return -20 - at;
                }
                read += text.charAt(at);
                at = blanks(text, at + 1);
                if (at == text.length()) {
                    world.winds = read;
                    return wind;
                }
                if (text.charAt(at) != ',' || wind == 12) {
                    return -20 - at;
                }
                at = blanks(text, at + 1);
            }
        }

        static int blanks(String text, int at) {
            int end = at;
            while (end < text.length() && text.charAt(end) == ' ') {
                end++;
            }
            return end;
        }

        int fallen(int field) {
            return out(field, 0, 24) ? BAD : world.fallen[field];
        }

        int count(int what) {
            if (out(what, 0, 7)) {
                return BAD;
            }
            int[] all = {0, world.villages.size(), world.hour, world.winds.length() / 2, 0, 0, 0, 0};
            for (Cloud c : world.clouds) {
                all[0] += c.away ? 0 : 1;
                all[c.away ? 5 : 4] += c.water;
            }
            for (int f : world.fallen) {
                all[6] += f;
            }
            for (Village v : world.villages) {
                all[7] += v.string;
            }
            return all[what];
        }

        int pass(int n) {
            return out(n, 1, 60) ? BAD : world.hour + n > 9999 ? FULL : hours(world, n, false);
        }

        int drawn(int n) {
            return out(n, 1, 60) ? BAD : world.hour + n > 9999 ? FULL : hours(world, n, true);
        }

        static int hours(World w, int n, boolean isDrawn) {
            int falls = 0;
            for (int h = 0; h < n; h++) {
                falls += isDrawn ? w.drawnHour() : w.windHour();
            }
            return falls;
        }

        int seed(int v) {
            if (v < 0) {
                return BAD;
            }
            int was = (int) world.draw;
            world.draw = v;
            return was;
        }

        int wet(int village, int n) {
            if (noVillage(village) || out(n, 1, 24)) {
                return BAD;
            }
            World w = world.twin();
            hours(w, n, false);
            return w.villages.get(village).wet;
        }

        int where(int cloud, int n, int let) {
            if (noCloud(cloud) || out(n, 1, 24) || out(let, 0, 1)) {
                return BAD;
            }
            World w = world.twin();
            if (let == 1) {
                w.clouds.get(cloud).heldBy = new int[4];
            }
            hours(w, n, false);
            return w.clouds.get(cloud).field();
        }

        int fewest(int village, int n, int i) {
            if (noVillage(village) || out(n, 1, 12) || out(i, -1, 5)) {
                return BAD;
            }
            for (int k = 0; k <= world.villages.get(village).string; k++) {
                int[] row = new int[6];
                if (firstRow(village, n, row, 0, k)) {
                    return i < 0 ? k : row[i];
                }
            }
            return NONE;
        }

        /** Tries out all rows of k more strings from cloud c on, in their order. */
        private boolean firstRow(int village, int n, int[] row, int c, int k) {
            if (c == 6) {
                return k == 0 && hasEnough(village, n, row);
            }
            boolean canHold = c < world.clouds.size() && !world.clouds.get(c).away;
            for (int s = 0; s <= (canHold ? k : 0); s++) {
                row[c] = s;
                if (firstRow(village, n, row, c + 1, k - s)) {
                    return true;
                }
            }
            row[c] = 0;
            return false;
        }

        private boolean hasEnough(int village, int n, int[] row) {
            World w = world.twin();
            for (int c = 0; c < w.clouds.size(); c++) {
                w.clouds.get(c).heldBy[village] = row[c];
            }
            hours(w, n, false);
            return w.villages.get(village).wet >= w.villages.get(village).thirst;
        }

        /** How wet all are if some lay all on one: a choice of 6 for none, of -1 for holding as now. */
        int[] wetByChoices(int n, int[] choices) {
            World w = world.twin();
            for (int v = 0; v < w.villages.size(); v++) {
                for (int c = 0; choices[v] >= 0 && c < w.clouds.size(); c++) {
                    boolean lays = choices[v] == c && !w.clouds.get(c).away;
                    w.clouds.get(c).heldBy[v] = lays ? w.villages.get(v).string : 0;
                }
            }
            hours(w, n, false);
            int[] wet = new int[w.villages.size()];
            for (int v = 0; v < wet.length; v++) {
                wet[v] = w.villages.get(v).wet;
            }
            return wet;
        }

        List<Integer> choices() {
            List<Integer> all = new ArrayList<>();
            for (int c = 0; c < world.clouds.size(); c++) {
                if (!world.clouds.get(c).away) {
                    all.add(c);
                }
            }
            all.add(6);
            return all;
        }

        int tug(int a, int b, int n, int what) {
            if (noVillage(a) || noVillage(b) || a == b || out(n, 1, 12) || out(what, 0, 1)) {
                return BAD;
            }
            int[][][] wet = new int[7][7][];
            for (int i : choices()) {
                for (int j : choices()) {
                    int[] row = {-1, -1, -1, -1};
                    row[a] = i;
                    row[b] = j;
                    wet[i][j] = wetByChoices(n, row);
                }
            }
            List<Integer> pairs = new ArrayList<>();
            for (int i : choices()) {
                for (int j : choices()) {
                    boolean stays = true;
                    for (int other : choices()) {
                        stays &= wet[other][j][a] <= wet[i][j][a];
                        stays &= wet[i][other][b] <= wet[i][j][b];
                    }
                    if (stays) {
                        pairs.add(10 * i + j);
                    }
                }
            }
            return what == 0 ? pairs.size() : pairs.isEmpty() ? NONE : pairs.get(0);
        }

        int image() {
            image = world.twin();
            return 1;
        }

        int restore() {
            if (image == null) {
                return NONE;
            }
            world = image.twin();
            return 1;
        }

        int noItems(int sheet, int lane, int i, int n) {
            if (items[sheet] == null) {
                return NULL;
            }
            if (lanes[sheet] != lane) {
                return CAST;
            }
            return lacks(sheet, i, n) ? INDEX : 0;
        }

        boolean lacks(int sheet, long i, long n) {
            return i < 0 || n < 0 || i + n > items[sheet].length;
        }

        static long low(int lane, long v) {
            int above = 64 - (8 << lane);
            return v << above >> above;
        }

        int held(int n, int sheet, int lane, int i, int j) {
            if (out(n, 1, 12) || out(sheet, 0, 3) || out(lane, 0, 2) || out(j, -1, 3)) {
                return BAD;
            }
            int size = world.villages.size();
            int fault = noItems(sheet, lane, i, size);
            if (fault != 0) {
                return fault;
            }
            if (size == 0) {
                return NOT;
            }
            List<int[]> found = new ArrayList<>();
            findRows(n, items[sheet], i, new int[] {-1, -1, -1, -1}, 0, found);
            if (j < 0) {
                return found.size();
            }
            return found.isEmpty() || j >= size ? NONE : found.get(0)[j];
        }

        private void findRows(int n, long[] told, int i, int[] row, int v, List<int[]> found) {
            if (v < world.villages.size()) {
                for (int c : choices()) {
                    row[v] = c;
                    findRows(n, told, i, row, v + 1, found);
                }
                return;
            }
            int[] wet = wetByChoices(n, row);
            for (int w = 0; w < wet.length; w++) {
                if (wet[w] != told[i + w]) {
                    return;
                }
            }
            found.add(row.clone());
        }

        int film(int row, int sheet, int lane, int i) {
            if (out(row, 0, 4) || out(sheet, 0, 3) || out(lane, 0, 2)) {
                return BAD;
            }
            int fault = noItems(sheet, lane, i, 5);
            for (int column = 0; fault == 0 && column < 5; column++) {
                items[sheet][i + column] = low(lane, world.fallen[5 * row + column]);
            }
            return fault != 0 ? fault : 5;
        }

        int sheet(int sheet, int lane, int n) {
            if (out(sheet, 0, 3) || out(lane, 0, 2) || n > 25) {
                return BAD;
            }
            if (n < 0) {
                return SIZE;
            }
            items[sheet] = new long[n];
            lanes[sheet] = lane;
            return n;
        }

        int drop(int sheet) {
            if (out(sheet, 0, 3)) {
                return BAD;
            }
            if (items[sheet] == null) {
                return NULL;
            }
            int had = items[sheet].length;
            items[sheet] = null;
            return had;
        }

        int item(int sheet, int lane, int i, long v) {
            if (out(sheet, 0, 3) || out(lane, 0, 2)) {
                return BAD;
            }
            int fault = noItems(sheet, lane, i, 1);
            if (fault != 0) {
                return fault;
            }
            items[sheet][i] = low(lane, v);
            return 1;
        }

        int copy(int from, int i, int to, int j, int n) {
            if (out(from, 0, 3) || out(to, 0, 3)) {
                return BAD;
            }
            if (items[from] == null || items[to] == null) {
                return NULL;
            }
            if (lanes[from] != lanes[to]) {
                return CAST;
            }
            if (lacks(from, i, n) || lacks(to, j, n)) {
                return INDEX;
            }
            long[] taken = items[from].clone();
            for (int k = 0; k < n; k++) {
                items[to][j + k] = taken[i + k];
            }
            return n;
        }
    }
}
