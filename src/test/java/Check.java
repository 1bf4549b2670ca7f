/** Counts answers that are not as due; a test's main ends by end(). */
final class Check {
    private static int wrong = 0;
    private static int asked = 0;

    private Check() {
    }

    static void due(String call, long got, long want) {
        asked++;
        if (got != want) {
            wrong++;
            System.out.println(call + " answered " + got + ", due is " + want);
        }
    }

    /** Appends a text of any length to the pad, eight characters a call; returns the last answer. */
    static int write(JettyHoses x, String text) {
        int answer = 0;
        for (int from = 0; from < text.length(); from += 8) {
            answer = x.put(packed(text.substring(from, Math.min(text.length(), from + 8))));
        }
        return answer;
    }

    static long packed(String text) {
        long number = 0;
        for (int i = 0; i < text.length(); i++) {
            number = number << 8 | text.charAt(i);
        }
        return number;
    }

    /** Everything that can be asked of a jetty, but for the pad and the history. */
    static int[] picture(JettyHoses x) {
        int[] seen = new int[18 + 6 * 8 + 4 * 6 + 4 * 4];
        int at = 0;
        for (int what = 0; what < 18; what++) {
            seen[at++] = x.count(what);
        }
        for (int i = 0; i < 6 * 8; i++) {
            seen[at++] = x.tanker(i / 8, i % 8);
        }
        for (int i = 0; i < 4 * 6; i++) {
            seen[at++] = x.hose(i / 6, i % 6);
        }
        for (int i = 0; i < 4 * 4; i++) {
            seen[at++] = x.grade(i / 4, i % 4);
        }
        return seen;
    }

    static void duePicture(String where, JettyHoses x, int[] want) {
        int[] got = picture(x);
        for (int i = 0; i < want.length; i++) {
            due(where + ", entry " + i + " of the picture", got[i], want[i]);
        }
    }

    /**
     * Two objects must be alike in all that can be told: what there is, the history, both slots, and the pad. Undoes what
     * can be undone and runs the pad, so that neither is of use afterwards.
     */
    static void dueTwins(String where, JettyHoses x, JettyHoses y) {
        duePicture(where, x, picture(y));
        due(where + ", length of the pad", x.count(18), y.count(18));
        due(where + ", fault of the pad", x.fault(), y.fault());
        due(where + ", changes to undo", x.count(19), y.count(19));
        for (int i = y.count(19); i >= 0; i--) {
            due(where + ", undo()", x.undo(), y.undo());
            duePicture(where + ", undone", x, picture(y));
        }
        for (int slot = 0; slot < 2; slot++) {
            due(where + ", restore(" + slot + ")", x.restore(slot), y.restore(slot));
            duePicture(where + ", restored", x, picture(y));
        }
        due(where + ", run()", x.run(), y.run());
        duePicture(where + ", run", x, picture(y));
    }

    static boolean isError(int answer) {
        return answer <= JettyHoses.NO_SUCH && answer >= JettyHoses.NOT_POSSIBLE;
    }

    static void end(String test) {
        System.out.println(test + ": " + (asked - wrong) + " of " + asked + " answers as due");
        if (wrong != 0) {
            System.exit(1);
        }
    }
}
