import java.util.Arrays;

/** Clouds on strings: the land, its hours, what villages could do, and sheets; see README.md. */
public final class CloudStrings {
    public static final int BAD = -1, NOT = -2, FULL = -3, NONE = -4, NULL = -11, CAST = -12, INDEX = -13, SIZE = -14;

    private static final int EDGE = 5;
    private static final int FIELDS = 25;
    private static final int AWAY = 25;
    private static final int CLOUDS = 6;
    private static final int NO_CLOUD = 6;
    private static final int VILLAGES = 4;
    private static final int VILLAGE_SETS = 16;
    private static final int KINDS = 4;
    private static final int SALT = 3;
    private static final int MOST_WATER = 999;
    private static final int MOST_STRING = 9;
    private static final int MOST_THIRST = 99;
    private static final int MOST_WINDS = 12;
    private static final int MOST_TAPE = 48;
    private static final int MOST_PASSED = 60;
    private static final int MOST_SEEN = 24;
    private static final int MOST_PLANNED = 12;
    private static final int LAST_HOUR = 9999;
    private static final int FIRST_FAULT = -20;
    private static final int LOW_31_BITS = 0x7fffffff;
    private static final int SHEETS = 4;
    private static final int LANES = 3;
    private static final int MOST_ITEMS = 25;
    private static final int[] WEIGHTS = {1, 1, 2, 1};
    private static final int[] RAINS = {2, 1, 5, 1};

    private final Land now = new Land();
    private final Land kept = new Land();
    private final Forecast forecast = new Forecast();
    private final Supply supply = new Supply();
    private final Laying laying = new Laying();
    private final Tape tape = new Tape();
    private final Winds read = new Winds();
    private final Sheet[] sheets = {new Sheet(), new Sheet(), new Sheet(), new Sheet()};
    private boolean hasImage = false;

    public CloudStrings() {
    }

    // ---- 1 clouds, villages, winds

    public int cloud(int kind, int field, int water) {
        if (isOutside(kind, 0, KINDS - 1) || isOutside(field, 0, FIELDS - 1) || isOutside(water, 1, MOST_WATER)) {
            return BAD;
        }
        if (now.clouds >= CLOUDS) {
            return FULL;
        }
        return now.addCloud(kind, field, water);
    }

    public int village(int field, int string, int thirst) {
        if (isOutside(field, 0, FIELDS - 1) || isOutside(string, 0, MOST_STRING)
                || isOutside(thirst, 0, MOST_THIRST)) {
            return BAD;
        }
        if (now.villageIn(field) >= 0) {
            return NOT;
        }
        if (now.villages >= VILLAGES) {
            return FULL;
        }
        return now.addVillage(field, string, thirst);
    }

    public int told(int cloud, int what) {
        if (!now.isCloud(cloud)) {
            return BAD;
        }
        switch (what) {
            case 0:
                return now.kind[cloud];
            case 1:
                return now.field[cloud];
            case 2:
                return now.water[cloud];
            case 3:
                return now.stringsOn(cloud);
            default:
                return BAD;
        }
    }

    public int of(int village, int what) {
        if (!now.isVillage(village)) {
            return BAD;
        }
        switch (what) {
            case 0:
                return now.home[village];
            case 1:
                return now.string[village];
            case 2:
                return now.thirst[village];
            case 3:
                return now.wetness[village];
            case 4:
                return now.string[village] - now.tiedBy(village);
            default:
                return BAD;
        }
    }

    public int set(int village, int what, int v) {
        if (!now.isVillage(village) || isOutside(what, 0, 1)
                || isOutside(v, 0, what == 0 ? MOST_STRING : MOST_THIRST)) {
            return BAD;
        }
        if (what == 1) {
            int before = now.thirst[village];
            now.thirst[village] = v;
            return before;
        }
        if (now.tiedBy(village) > v) {
            return NOT;
        }
        int before = now.string[village];
        now.string[village] = v;
        return before;
    }

    public int hold(int village, int cloud, int n) {
        if (!now.isVillage(village) || !now.isCloud(cloud) || isOutside(n, 0, MOST_STRING)) {
            return BAD;
        }
        if (!now.isOver(cloud)) {
            return NOT;
        }
        int before = now.strings[cloud][village];
        if (now.tiedBy(village) - before + n > now.string[village]) {
            return FULL;
        }
        now.strings[cloud][village] = n;
        return before;
    }

    public int holds(int village, int cloud) {
        if (!now.isVillage(village) || !now.isCloud(cloud)) {
            return BAD;
        }
        return now.strings[cloud][village];
    }

    public int join(int a, int b) {
        if (!now.isCloud(a) || !now.isCloud(b) || a == b) {
            return BAD;
        }
        if (!now.isOver(a) || now.field[a] != now.field[b]) {
            return NOT;
        }
        now.joinClouds(a, b);
        return now.water[a];
    }

    public int split(int cloud, int water) {
        if (!now.isCloud(cloud) || isOutside(water, 1, MOST_WATER)) {
            return BAD;
        }
        if (!now.isOver(cloud) || now.water[cloud] <= water) {
            return NOT;
        }
        if (now.clouds >= CLOUDS) {
            return FULL;
        }
        now.water[cloud] -= water;
        return now.addCloud(now.kind[cloud], now.field[cloud], water);
    }

    public int salt(int cloud) {
        if (!now.isCloud(cloud)) {
            return BAD;
        }
        if (!now.isOver(cloud)) {
            return NOT;
        }
        int before = now.kind[cloud];
        now.kind[cloud] = SALT;
        return before;
    }

    public int type(long w, int n) {
        if (isOutside(n, 1, 8)) {
            return BAD;
        }
        for (int i = 0; i < n; i++) {
            if (isOutside(byteOf(w, i), 32, 126)) {
                return BAD;
            }
        }
        if (tape.length + n > MOST_TAPE) {
            return FULL;
        }
        for (int i = n - 1; i >= 0; i--) {
            tape.add(byteOf(w, i));
        }
        return tape.length;
    }

    public int winds() {
        int answer = tape.readInto(read);
        tape.length = 0;
        if (answer > 0) {
            now.winds.takeAll(read);
        }
        return answer;
    }

    public int fallen(int field) {
        return isOutside(field, 0, FIELDS - 1) ? BAD : now.fallenOn[field];
    }

    public int count(int what) {
        switch (what) {
            case 0:
                return now.cloudsOver();
            case 1:
                return now.villages;
            case 2:
                return now.hour;
            case 3:
                return now.winds.length;
            case 4:
                return now.waterWhere(true);
            case 5:
                return now.waterWhere(false);
            case 6:
                return sumOf(now.fallenOn);
            case 7:
                return sumOf(now.string);
            default:
                return BAD;
        }
    }

    // ---- 2 hours

    public int pass(int n) {
        if (isOutside(n, 1, MOST_PASSED)) {
            return BAD;
        }
        if (now.hour + n > LAST_HOUR) {
            return FULL;
        }
        int falls = 0;
        for (int h = 0; h < n; h++) {
            falls += now.passHour(now.winds.sideIn(now.hour), now.winds.forceIn(now.hour));
        }
        return falls;
    }

    public int drawn(int n) {
        if (isOutside(n, 1, MOST_PASSED)) {
            return BAD;
        }
        if (now.hour + n > LAST_HOUR) {
            return FULL;
        }
        int falls = 0;
        for (int h = 0; h < n; h++) {
            int wind = now.drawWind();
            falls += now.passHour(wind % 4, wind / 4);
        }
        return falls;
    }

    public int seed(int v) {
        if (v < 0) {
            return BAD;
        }
        int before = now.draw;
        now.draw = v;
        return before;
    }

    public int wet(int village, int n) {
        if (!now.isVillage(village) || isOutside(n, 1, MOST_SEEN)) {
            return BAD;
        }
        forecast.start(now);
        for (int c = 0; c < now.clouds; c++) {
            forecast.follow(c, n);
        }
        return forecast.trial.wetness[village];
    }

    public int where(int cloud, int n, int let) {
        if (!now.isCloud(cloud) || isOutside(n, 1, MOST_SEEN) || isOutside(let, 0, 1)) {
            return BAD;
        }
        forecast.start(now);
        if (let == 1) {
            Arrays.fill(forecast.trial.strings[cloud], 0);
        }
        forecast.follow(cloud, n);
        return forecast.trial.field[cloud];
    }

    // ---- 3 strings

    public int fewest(int village, int n, int i) {
        if (!now.isVillage(village) || isOutside(n, 1, MOST_PLANNED) || isOutside(i, -1, CLOUDS - 1)) {
            return BAD;
        }
        int least = supply.plan(now, village, n);
        if (least < 0) {
            return NONE;
        }
        return i < 0 ? least : supply.row[i];
    }

    public int tug(int a, int b, int n, int what) {
        if (!now.isVillage(a) || !now.isVillage(b) || a == b || isOutside(n, 1, MOST_PLANNED)
                || isOutside(what, 0, 1)) {
            return BAD;
        }
        laying.findPairs(now, a, b, n);
        if (what == 0) {
            return laying.found;
        }
        return laying.found == 0 ? NONE : 10 * laying.first[0] + laying.first[1];
    }

    public int image() {
        kept.takeAll(now);
        hasImage = true;
        return 1;
    }

    public int restore() {
        if (!hasImage) {
            return NONE;
        }
        now.takeAll(kept);
        return 1;
    }

    // ---- 4 sheets

    public int held(int n, int sheet, int lane, int i, int j) {
        if (isOutside(n, 1, MOST_PLANNED) || isNoRow(sheet, lane) || isOutside(j, -1, VILLAGES - 1)) {
            return BAD;
        }
        int fault = sheets[sheet].faultOf(lane, i, now.villages);
        if (fault != 0) {
            return fault;
        }
        if (now.villages == 0) {
            return NOT;
        }
        if (j >= now.villages) {
            return NONE;
        }
        laying.findRows(now, n, sheets[sheet].items, i);
        if (j < 0) {
            return laying.found;
        }
        return laying.found == 0 ? NONE : laying.first[j];
    }

    public int film(int row, int sheet, int lane, int i) {
        if (isOutside(row, 0, EDGE - 1) || isNoRow(sheet, lane)) {
            return BAD;
        }
        int fault = sheets[sheet].faultOf(lane, i, EDGE);
        if (fault != 0) {
            return fault;
        }
        for (int column = 0; column < EDGE; column++) {
            sheets[sheet].put(i + column, now.fallenOn[EDGE * row + column]);
        }
        return EDGE;
    }

    public int sheet(int sheet, int lane, int n) {
        if (isNoRow(sheet, lane) || n > MOST_ITEMS) {
            return BAD;
        }
        if (n < 0) {
            return SIZE;
        }
        sheets[sheet].renew(lane, n);
        return n;
    }

    public int drop(int sheet) {
        if (isOutside(sheet, 0, SHEETS - 1)) {
            return BAD;
        }
        if (!sheets[sheet].isThere) {
            return NULL;
        }
        sheets[sheet].isThere = false;
        return sheets[sheet].length;
    }

    public int item(int sheet, int lane, int i, long v) {
        if (isNoRow(sheet, lane)) {
            return BAD;
        }
        int fault = sheets[sheet].faultOf(lane, i, 1);
        if (fault != 0) {
            return fault;
        }
        sheets[sheet].put(i, v);
        return 1;
    }

    public int copy(int from, int i, int to, int j, int n) {
        if (isOutside(from, 0, SHEETS - 1) || isOutside(to, 0, SHEETS - 1)) {
            return BAD;
        }
        Sheet source = sheets[from];
        Sheet target = sheets[to];
        if (!source.isThere || !target.isThere) {
            return NULL;
        }
        if (source.lane != target.lane) {
            return CAST;
        }
        if (source.lacks(i, n) || target.lacks(j, n)) {
            return INDEX;
        }
        System.arraycopy(source.items, i, target.items, j, n);
        return n;
    }

    private static boolean isOutside(int v, int least, int most) {
        return v < least || v > most;
    }

    private static boolean isNoRow(int sheet, int lane) {
        return isOutside(sheet, 0, SHEETS - 1) || isOutside(lane, 0, LANES - 1);
    }

    private static int byteOf(long w, int place) {
        return (int) (w >>> (8 * place)) & 255;
    }

    private static int sumOf(int[] row) {
        int sum = 0;
        for (int v : row) {
            sum += v;
        }
        return sum;
    }

    /** A row of winds, that blow in turn. */
    private static final class Winds {
        final int[] sides = new int[MOST_WINDS];
        final int[] forces = new int[MOST_WINDS];
        int length = 0;

        void add(int side, int force) {
            if (length < MOST_WINDS) {
                sides[length] = side;
                forces[length] = force;
                length++;
            }
        }

        int sideIn(int hour) {
            return length > 0 ? sides[hour % length] : 0;
        }

        int forceIn(int hour) {
            return length > 0 ? forces[hour % length] : 0;
        }

        void takeAll(Winds from) {
            System.arraycopy(from.sides, 0, sides, 0, MOST_WINDS);
            System.arraycopy(from.forces, 0, forces, 0, MOST_WINDS);
            length = from.length;
        }
    }

    /** Bytes that were typed, and how they are read as winds. */
    private static final class Tape {
        private static final int LETTER = 0;
        private static final int DIGIT = 1;
        private static final int COMMA = 2;

        final int[] signs = new int[MOST_TAPE];
        int length = 0;

        void add(int sign) {
            if (length < MOST_TAPE) {
                signs[length] = sign;
                length++;
            }
        }

        /** How many winds the text tells, or its fault; what has been read by a fault is not to be used. */
        int readInto(Winds read) {
            read.length = 0;
            int due = LETTER;
            int side = 0;
            for (int place = 0; place < length; place++) {
                int sign = signs[place];
                if (sign == ' ') {
                    continue;
                }
                if (!canStand(sign, due, read.length)) {
                    return FIRST_FAULT - place;
                }
                if (due == LETTER) {
                    side = sideOf(sign);
                    due = DIGIT;
                } else if (due == DIGIT) {
                    read.add(side, sign - '0');
                    due = COMMA;
                } else {
                    due = LETTER;
                }
            }
            return due == COMMA ? read.length : FIRST_FAULT - length;
        }

        private static boolean canStand(int sign, int due, int readYet) {
            if (due == LETTER) {
                return sideOf(sign) >= 0;
            }
            if (due == DIGIT) {
                return sign >= '0' && sign <= '3';
            }
            // a comma asks for one more wind, so behind the last that there may be it is the fault itself
            return sign == ',' && readYet < MOST_WINDS;
        }

        private static int sideOf(int sign) {
            switch (sign) {
                case 'u':
                    return 0;
                case 'l':
                    return 1;
                case 'r':
                    return 2;
                case 'd':
                    return 3;
                default:
                    return -1;
            }
        }
    }

    /** All that an image keeps: clouds, villages, what holds what, winds, the hour, the draw, what has fallen. */
    private static final class Land {
        int clouds = 0;
        final int[] kind = new int[CLOUDS];
        final int[] field = new int[CLOUDS];
        final int[] water = new int[CLOUDS];
        final int[][] strings = new int[CLOUDS][VILLAGES];
        int villages = 0;
        final int[] home = new int[VILLAGES];
        final int[] string = new int[VILLAGES];
        final int[] thirst = new int[VILLAGES];
        final int[] wetness = new int[VILLAGES];
        final int[] fallenOn = new int[FIELDS];
        final Winds winds = new Winds();
        int hour = 0;
        int draw = 1;

        void takeAll(Land from) {
            clouds = from.clouds;
            villages = from.villages;
            hour = from.hour;
            draw = from.draw;
            for (int c = 0; c < CLOUDS; c++) {
                takeCloud(from, c);
            }
            System.arraycopy(from.home, 0, home, 0, VILLAGES);
            System.arraycopy(from.string, 0, string, 0, VILLAGES);
            System.arraycopy(from.thirst, 0, thirst, 0, VILLAGES);
            System.arraycopy(from.wetness, 0, wetness, 0, VILLAGES);
            System.arraycopy(from.fallenOn, 0, fallenOn, 0, FIELDS);
            winds.takeAll(from.winds);
        }

        void takeCloud(Land from, int cloud) {
            kind[cloud] = from.kind[cloud];
            field[cloud] = from.field[cloud];
            water[cloud] = from.water[cloud];
            System.arraycopy(from.strings[cloud], 0, strings[cloud], 0, VILLAGES);
        }

        boolean isCloud(int cloud) {
            return cloud >= 0 && cloud < clouds;
        }

        boolean isOver(int cloud) {
            return isCloud(cloud) && field[cloud] != AWAY;
        }

        boolean isVillage(int village) {
            return village >= 0 && village < villages;
        }

        int villageIn(int place) {
            for (int v = 0; v < villages; v++) {
                if (home[v] == place) {
                    return v;
                }
            }
            return -1;
        }

        int addCloud(int itsKind, int itsField, int itsWater) {
            int cloud = clouds;
            kind[cloud] = itsKind;
            field[cloud] = itsField;
            water[cloud] = itsWater;
            Arrays.fill(strings[cloud], 0);
            clouds++;
            return cloud;
        }

        int addVillage(int itsField, int itsString, int itsThirst) {
            int village = villages;
            home[village] = itsField;
            string[village] = itsString;
            thirst[village] = itsThirst;
            wetness[village] = 0;
            villages++;
            return village;
        }

        int stringsOn(int cloud) {
            return sumOf(strings[cloud]);
        }

        int tiedBy(int village) {
            int tied = 0;
            for (int c = 0; c < clouds; c++) {
                tied += strings[c][village];
            }
            return tied;
        }

        int cloudsOver() {
            int over = 0;
            for (int c = 0; c < clouds; c++) {
                if (isOver(c)) {
                    over++;
                }
            }
            return over;
        }

        int waterWhere(boolean over) {
            int sum = 0;
            for (int c = 0; c < clouds; c++) {
                if (isOver(c) == over) {
                    sum += water[c];
                }
            }
            return sum;
        }

        void joinClouds(int a, int b) {
            int both = water[a] + water[b];
            water[a] = Math.min(both, MOST_WATER);
            fallenOn[field[a]] += both - water[a];
            water[b] = 0;
            field[b] = AWAY;
            Arrays.fill(strings[b], 0);
        }

        int drawWind() {
            // only the low 31 bits are kept, and these are right in spite of the int's wrap-around
            draw = (draw * 1103515245 + 12345) & LOW_31_BITS;
            return draw / 65536 % 16;
        }

        int passHour(int side, int force) {
            for (int c = 0; c < clouds; c++) {
                move(c, side, force);
            }
            int falls = 0;
            for (int c = 0; c < clouds; c++) {
                falls += rain(c);
            }
            hour++;
            return falls;
        }

        void move(int cloud, int side, int force) {
            if (!isOver(cloud)) {
                return;
            }
            int need = force * WEIGHTS[kind[cloud]];
            int all = stringsOn(cloud);
            int puller = pullerOf(cloud);
            int most = strings[cloud][puller];
            if (most > 0 && most >= all - most + need) {
                field[cloud] = towards(field[cloud], home[puller]);
            } else if (all < need) {
                field[cloud] = besides(field[cloud], side);
                if (field[cloud] == AWAY) {
                    loseStrings(cloud);
                }
            }
        }

        int rain(int cloud) {
            if (!isOver(cloud)) {
                return 0;
            }
            int falls = Math.min(RAINS[kind[cloud]], water[cloud]);
            water[cloud] -= falls;
            fallenOn[field[cloud]] += falls;
            int village = villageIn(field[cloud]);
            if (village >= 0 && kind[cloud] != SALT) {
                wetness[village] += falls;
            }
            return falls;
        }

        private int pullerOf(int cloud) {
            int puller = 0;
            for (int v = 1; v < villages; v++) {
                if (strings[cloud][v] > strings[cloud][puller]) {
                    puller = v;
                }
            }
            return puller;
        }

        private void loseStrings(int cloud) {
            for (int v = 0; v < villages; v++) {
                string[v] -= strings[cloud][v];
                strings[cloud][v] = 0;
            }
        }

        private static int towards(int from, int to) {
            int rows = to / EDGE - from / EDGE;
            int columns = to % EDGE - from % EDGE;
            if (rows != 0) {
                return rows > 0 ? from + EDGE : from - EDGE;
            }
            if (columns != 0) {
                return columns > 0 ? from + 1 : from - 1;
            }
            return from;
        }

        private static int besides(int from, int side) {
            int row = from / EDGE;
            int column = from % EDGE;
            switch (side) {
                case 0:
                    return row > 0 ? from - EDGE : AWAY;
                case 1:
                    return column > 0 ? from - 1 : AWAY;
                case 2:
                    return column < EDGE - 1 ? from + 1 : AWAY;
                default:
                    return row < EDGE - 1 ? from + EDGE : AWAY;
            }
        }
    }

    /** What would be: a copy of the land on which hours go by one cloud at a time. */
    private static final class Forecast {
        final Land trial = new Land();

        void start(Land from) {
            trial.takeAll(from);
        }

        /** One cloud alone is enough: where it goes and rains hangs on its own strings, and on no other cloud. */
        void follow(int cloud, int n) {
            for (int h = 0; h < n; h++) {
                int hour = trial.hour + h;
                trial.move(cloud, trial.winds.sideIn(hour), trial.winds.forceIn(hour));
                trial.rain(cloud);
            }
        }
    }

    /** The fewest strings by which one village has enough. */
    private static final class Supply {
        // less than any gain can make good
        private static final int NEVER = -1000000;

        final Forecast forecast = new Forecast();
        final int[][] gains = new int[CLOUDS][MOST_STRING + 1];
        final int[][] most = new int[CLOUDS + 1][MOST_STRING + 1];
        final int[] row = new int[CLOUDS];

        /** How many strings, or -1; the row tells on which clouds. */
        int plan(Land from, int village, int n) {
            int has = Math.min(from.string[village], MOST_STRING);
            int lacks = from.thirst[village] - from.wetness[village];
            learnGains(from, village, n, has);
            learnMost(has);
            for (int k = 0; k <= has; k++) {
                if (most[0][k] >= lacks) {
                    layFirstRow(k, lacks);
                    return k;
                }
            }
            return -1;
        }

        private void learnGains(Land from, int village, int n, int has) {
            forecast.start(from);
            for (int c = 0; c < CLOUDS; c++) {
                boolean isOver = from.isOver(c);
                // of a cloud that nobody can hold, rows have 0
                gains[c][0] = isOver ? gainBy(from, village, n, c, 0) : 0;
                for (int s = 1; s <= has; s++) {
                    gains[c][s] = isOver ? gainBy(from, village, n, c, s) : NEVER;
                }
            }
        }

        private int gainBy(Land from, int village, int n, int cloud, int strings) {
            Land trial = forecast.trial;
            trial.takeCloud(from, cloud);
            trial.strings[cloud][village] = strings;
            trial.wetness[village] = 0;
            forecast.follow(cloud, n);
            return trial.wetness[village];
        }

        /** most[c][k]: the most that clouds c and above give by k strings or fewer; behind the last cloud nothing. */
        private void learnMost(int has) {
            for (int c = CLOUDS - 1; c >= 0; c--) {
                for (int k = 0; k <= has; k++) {
                    most[c][k] = NEVER;
                    for (int s = 0; s <= k; s++) {
                        most[c][k] = Math.max(most[c][k], gains[c][s] + most[c + 1][k - s]);
                    }
                }
            }
        }

        /** As no fewer strings are enough, a row that is enough has just so many. */
        private void layFirstRow(int strings, int lacks) {
            int left = strings;
            int missing = lacks;
            for (int c = 0; c < CLOUDS; c++) {
                int s = fewestOn(c, left, missing);
                row[c] = s;
                missing -= gains[c][s];
                left -= s;
            }
        }

        private int fewestOn(int cloud, int left, int missing) {
            for (int s = 0; s < left; s++) {
                if (gains[cloud][s] + most[cloud + 1][left - s] >= missing) {
                    return s;
                }
            }
            return left;
        }
    }

    /** Villages that each lay all their string on one cloud, or on none. */
    private static final class Laying {
        private static final int CHOICES = CLOUDS + 1;
        private static final int MOST_ROWS = CHOICES * CHOICES * CHOICES * CHOICES;

        final Forecast forecast = new Forecast();
        final int[] open = new int[CHOICES];
        int opens = 0;
        final int[][] gains = new int[CLOUDS][VILLAGE_SETS * VILLAGES];
        final int[] layersOn = new int[CHOICES];
        final int[] choice = new int[VILLAGES];
        final int[][] gainOfFirst = new int[CHOICES][CHOICES];
        final int[][] gainOfSecond = new int[CHOICES][CHOICES];
        int found = 0;
        final int[] first = new int[VILLAGES];

        /** Pairs of two villages that neither would change for another of its own. */
        void findPairs(Land from, int a, int b, int n) {
            prepare(from, 1 << a | 1 << b, n);
            for (int i = 0; i < opens; i++) {
                for (int j = 0; j < opens; j++) {
                    Arrays.fill(layersOn, 0);
                    layersOn[open[i]] |= 1 << a;
                    layersOn[open[j]] |= 1 << b;
                    gainOfFirst[i][j] = gainOf(a);
                    gainOfSecond[i][j] = gainOf(b);
                }
            }
            for (int i = 0; i < opens; i++) {
                for (int j = 0; j < opens; j++) {
                    if (isKeptByBoth(i, j)) {
                        noteFound(open[i], open[j]);
                    }
                }
            }
        }

        /** Rows of all villages by which each becomes as wet as its item tells. */
        void findRows(Land from, int n, int[] items, int start) {
            prepare(from, (1 << from.villages) - 1, n);
            Arrays.fill(choice, 0);
            boolean more = true;
            for (int r = 0; r < MOST_ROWS && more; r++) {
                layChoices(from.villages);
                if (isAsTold(from, items, start)) {
                    noteRow(from.villages);
                }
                more = goOn(from.villages);
            }
        }

        private void prepare(Land from, int layers, int n) {
            found = 0;
            opens = 0;
            forecast.start(from);
            for (int c = 0; c < CLOUDS; c++) {
                if (from.isOver(c)) {
                    open[opens] = c;
                    opens++;
                    learnGains(from, layers, n, c);
                }
            }
            open[opens] = NO_CLOUD;
            opens++;
        }

        private void learnGains(Land from, int layers, int n, int cloud) {
            for (int set = 0; set < VILLAGE_SETS; set++) {
                if ((set & ~layers) == 0) {
                    layBy(from, layers, cloud, set);
                    Arrays.fill(forecast.trial.wetness, 0);
                    forecast.follow(cloud, n);
                    System.arraycopy(forecast.trial.wetness, 0, gains[cloud], set * VILLAGES, VILLAGES);
                }
            }
        }

        private void layBy(Land from, int layers, int cloud, int set) {
            Land trial = forecast.trial;
            trial.takeCloud(from, cloud);
            for (int v = 0; v < VILLAGES; v++) {
                if ((layers >> v & 1) == 1) {
                    trial.strings[cloud][v] = (set >> v & 1) == 1 ? from.string[v] : 0;
                }
            }
        }

        private int gainOf(int village) {
            int gain = 0;
            for (int i = 0; i < opens - 1; i++) {
                int cloud = open[i];
                gain += gains[cloud][layersOn[cloud] * VILLAGES + village];
            }
            return gain;
        }

        private boolean isKeptByBoth(int i, int j) {
            for (int other = 0; other < opens; other++) {
                if (gainOfFirst[other][j] > gainOfFirst[i][j] || gainOfSecond[i][other] > gainOfSecond[i][j]) {
                    return false;
                }
            }
            return true;
        }

        private void noteFound(int ofFirst, int ofSecond) {
            if (found == 0) {
                first[0] = ofFirst;
                first[1] = ofSecond;
            }
            found++;
        }

        private void layChoices(int villages) {
            Arrays.fill(layersOn, 0);
            for (int v = 0; v < villages; v++) {
                layersOn[open[choice[v]]] |= 1 << v;
            }
        }

        private boolean isAsTold(Land from, int[] items, int start) {
            for (int v = 0; v < from.villages; v++) {
                if (from.wetness[v] + gainOf(v) != items[start + v]) {
                    return false;
                }
            }
            return true;
        }

        private void noteRow(int villages) {
            if (found == 0) {
                for (int v = 0; v < villages; v++) {
                    first[v] = open[choice[v]];
                }
            }
            found++;
        }

        /** The next row, the last village's choice ahead of all others; false behind the last row. */
        private boolean goOn(int villages) {
            for (int v = villages - 1; v >= 0; v--) {
                choice[v]++;
                if (choice[v] < opens) {
                    return true;
                }
                choice[v] = 0;
            }
            return false;
        }
    }

    /** Nothing, or a row of a lane; its place for items is made once and used again. */
    private static final class Sheet {
        final int[] items = new int[MOST_ITEMS];
        boolean isThere = false;
        int lane = 0;
        int length = 0;

        void renew(int itsLane, int itsLength) {
            isThere = true;
            lane = itsLane;
            length = itsLength;
            Arrays.fill(items, 0);
        }

        /** What the machine would find, if n items from i on were taken of it as of a row of a lane; 0: nothing. */
        int faultOf(int asLane, int i, int n) {
            if (!isThere) {
                return NULL;
            }
            if (lane != asLane) {
                return CAST;
            }
            return lacks(i, n) ? INDEX : 0;
        }

        boolean lacks(int i, int n) {
            return i < 0 || n < 0 || i > length || n > length - i;
        }

        void put(int i, long v) {
            if (lane == 0) {
                items[i] = (byte) v;
            } else if (lane == 1) {
                items[i] = (short) v;
            } else {
                items[i] = (int) v;
            }
        }
    }
}
