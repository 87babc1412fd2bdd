import java.lang.reflect.InvocationTargetException;
import java.lang.reflect.Method;
import java.lang.reflect.Modifier;

/**
 * What holds whatever is called: no water is lost, string and what it holds agree, no call throws or answers what its
 * promise does not name, and the same calls answer the same. Long rows of calls, the same ones each time, by numbers
 * that are mostly as told, at times just outside, at times far.
 */
public final class KeptTest extends Due {
    private static final int RUNS = 600;
    private static final int CALLS = 200;
    private static final int ANY = Integer.MAX_VALUE;
    private static final long[] FAR = {-1, -2, 6, 25, 26, 61, 127, 1000, 65536, Integer.MAX_VALUE, Integer.MIN_VALUE,
        Long.MAX_VALUE, Long.MIN_VALUE};

    /** By promises, from 2 on: the call; least and most of its arguments; what it answers, and by what it is refused. */
    private static final String[] NAMES = {"cloud", "village", "told", "of", "set", "hold", "holds", "join", "split",
        "salt", "type", "winds", "fallen", "count", "pass", "drawn", "seed", "wet", "where", "fewest", "tug", "image",
        "restore", "held", "film", "sheet", "drop", "item", "copy"};
    private static final int[][] ARGUMENTS = {{0, 3, 0, 24, 1, 999}, {0, 24, 0, 9, 0, 99}, {0, 5, 0, 3}, {0, 3, 0, 4},
        {0, 3, 0, 1, 0, 9}, {0, 3, 0, 5, 0, 4}, {0, 3, 0, 5}, {0, 5, 0, 5}, {0, 5, 1, 30}, {0, 5}, {0, ANY, 1, 8}, {},
        {0, 24}, {0, 7}, {1, 3}, {1, 2}, {0, ANY}, {0, 3, 1, 24}, {0, 5, 1, 24, 0, 1}, {0, 3, 1, 12, -1, 5},
        {0, 3, 0, 3, 1, 12, 0, 1}, {}, {}, {1, 12, 0, 3, 0, 2, 0, 9, -1, 3}, {0, 4, 0, 3, 0, 2, 0, 9},
        {0, 3, 0, 2, 0, 25}, {0, 3}, {0, 3, 0, 2, 0, 9, 0, ANY}, {0, 3, 0, 9, 0, 3, 0, 9, 0, 9}};
    private static final int[][] ANSWERS = {{0, 5}, {0, 3}, {0, 999}, {0, ANY}, {0, 99}, {0, 9}, {0, 9}, {0, 999}, {1, 5},
        {0, 3}, {1, 48}, {1, 12}, {0, ANY}, {0, ANY}, {0, 60 * 30}, {0, 60 * 30}, {0, ANY}, {0, ANY}, {0, 25}, {0, 9},
        {0, 66}, {1, 1}, {1, 1}, {0, 2401}, {5, 5}, {0, 25}, {0, 25}, {1, 1}, {0, 25}};
    private static final int[][] REFUSALS = {{BAD, FULL}, {BAD, NOT, FULL}, {BAD}, {BAD}, {BAD, NOT}, {BAD, NOT, FULL},
        {BAD}, {BAD, NOT}, {BAD, NOT, FULL}, {BAD, NOT}, {BAD, FULL}, {}, {BAD}, {BAD}, {BAD, FULL}, {BAD, FULL}, {BAD},
        {BAD}, {BAD}, {BAD, NONE}, {BAD, NONE}, {}, {NONE}, {BAD, NULL, CAST, INDEX, NOT, NONE},
        {BAD, NULL, CAST, INDEX}, {BAD, SIZE}, {BAD, NULL}, {BAD, NULL, CAST, INDEX}, {BAD, NULL, CAST, INDEX}};
    private static final int CLOUD = 0, TYPE = 10, WINDS = 11, IMAGE = 21, RESTORE = 22;

    private static final Method[] methods = new Method[NAMES.length];
    private static final int[] taken = new int[NAMES.length];
    private static long random;
    private static int come;
    private static int comeByImage;
    private static long answers;

    public static void main(String[] args) throws IllegalAccessException {
        for (Method m : CloudStrings.class.getDeclaredMethods()) {
            for (int which = 0; which < NAMES.length; which++) {
                if (Modifier.isPublic(m.getModifiers()) && m.getName().equals(NAMES[which])) {
                    methods[which] = m;
                }
            }
        }
        for (int run = 0; run < RUNS; run++) {
            long first = allOf(run);
            if (run % 10 == 0) {
                says(1, "the same calls");
                due("answers of run " + run, first, allOf(run));
            }
        }
        for (int which = 0; which < NAMES.length; which++) {
            due(NAMES[which] + " was not always refused", true, taken[which] > 0);
        }
        end();
    }

    /** All answers of one run together, as one number. */
    private static long allOf(int run) throws IllegalAccessException {
        random = 7919L * run + 1;
        come = 0;
        comeByImage = 0;
        answers = 0;
        CloudStrings x = new CloudStrings();
        int odd = run % 4 == 0 ? 4 : 60;
        for (int call = 0; call < CALLS; call++) {
            int which = call < 10 ? call % 2 : below(NAMES.length);
            make(x, which, odd);
            if (call % 100 == 99) {
                agrees(x);
            }
        }
        return answers;
    }

    private static int below(int n) {
        random = random * 6364136223846793005L + 1442695040888963407L;
        return (int) ((random >>> 33) % n);
    }

    private static void make(CloudStrings x, int which, int odd) throws IllegalAccessException {
        Object[] arguments = new Object[methods[which].getParameterCount()];
        StringBuilder told = new StringBuilder(NAMES[which]);
        for (int a = 0; a < arguments.length; a++) {
            int least = ARGUMENTS[which][2 * a];
            int most = ARGUMENTS[which][2 * a + 1];
            long v = below(odd) == 0 ? FAR[below(FAR.length)] : most == ANY ? below(ANY) : least + below(most - least + 1);
            if (methods[which].getParameterTypes()[a] == long.class) {
                arguments[a] = which == TYPE ? someText() : v;
            } else {
                arguments[a] = (int) v;
            }
            told.append(' ').append(arguments[a]);
        }
        says(which + 2, told.toString());
        int answer;
        try {
            answer = (int) methods[which].invoke(x, arguments);
        } catch (InvocationTargetException e) {
            due("throws " + e.getCause(), 0, 1);
            return;
        }
        answers = answers * 31 + answer;
        due("answer " + answer, true, isNamed(which, answer));
        taken[which] += answer >= 0 ? 1 : 0;
        if (which == CLOUD && answer >= 0) {
            come += (int) arguments[2];
        } else if (which == IMAGE) {
            comeByImage = come;
        } else if (which == RESTORE && answer == 1) {
            come = comeByImage;
        }
    }

    private static long someText() {
        String[] texts = {"u1,l2,", "r1", "d3", ",", "u0 ", " l1,r2,d", "x", "\177"};
        long w = 0;
        for (char sign : texts[below(texts.length)].toCharArray()) {
            w = w << 8 | sign;
        }
        return w;
    }

    private static boolean isNamed(int which, int answer) {
        for (int refusal : REFUSALS[which]) {
            if (answer == refusal) {
                return true;
            }
        }
        boolean isFault = which == WINDS && answer <= -20 && answer >= -68;
        return isFault || answer >= ANSWERS[which][0] && answer <= ANSWERS[which][1];
    }

    /** By some 100 more calls: what is told in more ways than one is told alike. */
    private static void agrees(CloudStrings x) {
        int villages = x.count(1);
        int[] holds = new int[4];
        int[] count = new int[8];
        for (int c = 0; c < 6 && x.told(c, 0) >= 0; c++) {
            boolean isAway = x.told(c, 1) == AWAY;
            count[isAway ? 5 : 4] += x.told(c, 2);
            count[0] += isAway ? 0 : 1;
            int on = 0;
            for (int v = 0; v < villages; v++) {
                on += x.holds(v, c);
                holds[v] += x.holds(v, c);
            }
            says(4, "3 STRINGS that hold it, of all");
            due("cloud " + c, on, x.told(c, 3));
            says(16, "beyond the LAND it is AWAY, all STRING that holds it is lost");
            due("cloud " + c + ", if away", true, !isAway || on == 0);
        }
        int wet = 0;
        for (int v = 0; v < villages; v++) {
            says(5, "4 STRING that holds nothing");
            due("village " + v, x.of(v, 1) - holds[v], x.of(v, 4));
            due("village " + v + " has as much as holds", true, x.of(v, 4) >= 0 && x.of(v, 1) <= 9);
            wet += x.of(v, 3);
            count[7] += x.of(v, 1);
        }
        for (int field = 0; field < 25; field++) {
            count[6] += x.fallen(field);
        }
        says(15, "How many");
        int[] all = {0, 4, 5, 6, 7};
        for (int what : all) {
            due("count " + what, count[what], x.count(what));
        }
        says(16, "nothing lost");
        due("water that has come", come, count[4] + count[5] + count[6]);
        due("nobody is wet but by what has fallen", true, wet <= count[6]);
    }
}
