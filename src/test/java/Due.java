/** What the tests share: answers that are due, their count, and texts for the tape. */
abstract class Due {
    static final int BAD = -1, NOT = -2, FULL = -3, NONE = -4, NULL = -11, CAST = -12, INDEX = -13, SIZE = -14;
    static final int AWAY = 25, UP = 0, LEFT = 1, RIGHT = 2, DOWN = 3;
    static final int WHITE = 0, SMALL = 1, THUNDER = 2, SALT = 3;
    static final int BYTES = 0, SHORTS = 1, INTS = 2;
    static final int[] WRONG = {-1, Integer.MIN_VALUE, Integer.MAX_VALUE};

    static int promise = 0;
    static String sentence = "";
    private static int passed = 0;
    private static int failed = 0;

    static void due(String what, long want, long got) {
        if (got == want) {
            passed++;
            return;
        }
        failed++;
        String where = sentence.isEmpty() ? "" : " (" + sentence + ")";
        System.out.println("promise " + promise + where + ": " + what + " answered " + got + ", due is " + want);
    }

    static void due(String what, boolean want, boolean got) {
        due(what, want ? 1 : 0, got ? 1 : 0);
    }

    /** The tests that come next are of this promise, and of these words of the document. */
    static void says(int itsPromise, String words) {
        promise = itsPromise;
        sentence = words;
    }

    static int failures() {
        return failed;
    }

    static void end() {
        System.out.println(passed + " passed, " + failed + " failed");
        if (failed != 0) {
            System.exit(1);
        }
    }

    /** Types a text, at most eight bytes a call: what the last call answered. */
    static int write(CloudStrings x, String text) {
        int answer = 0;
        for (int at = 0; at < text.length(); at += 8) {
            int end = Math.min(at + 8, text.length());
            long w = 0;
            for (int i = at; i < end; i++) {
                w = w << 8 | text.charAt(i);
            }
            answer = x.type(w, end - at);
        }
        return answer;
    }

    static int winds(CloudStrings x, String text) {
        write(x, text);
        return x.winds();
    }

    static CloudStrings windy(String text) {
        CloudStrings x = new CloudStrings();
        due("winds " + text, text.length() / 3 + 1, winds(x, text));
        return x;
    }

    static void cloudIs(String when, CloudStrings x, int cloud, int field, int water, int strings) {
        due("told " + cloud + " field, " + when, field, x.told(cloud, 1));
        due("told " + cloud + " water, " + when, water, x.told(cloud, 2));
        due("told " + cloud + " strings, " + when, strings, x.told(cloud, 3));
    }
}
