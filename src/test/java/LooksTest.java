/** Promises 15 to 19: what there is. */
public final class LooksTest {
    private static final int NO_SUCH = JettyHoses.NO_SUCH, BAD_VALUE = JettyHoses.BAD_VALUE, NONE = JettyHoses.NONE;
    private static final int LEAST = Integer.MIN_VALUE, MOST = Integer.MAX_VALUE;

    public static void main(String[] args) {
        JettyHoses x = worked();
        int[] before = Check.picture(x);
        tankers(x);
        hoses(x);
        grades(x);
        counts(x);
        Check.duePicture("looking changes nothing", x, before);
        tides();
        Check.end("LooksTest");
    }

    /** Hour 3; a tanker that was there 3 hours at the berth, one of hour 1 waits, and one of hour 3. */
    private static JettyHoses worked() {
        JettyHoses x = new JettyHoses();
        x.arrive(100, 110, 120, 130);
        x.berth();
        x.boom(true);
        x.connect(0, 0);
        x.connect(1, 1);
        x.pass(1);
        x.arrive(1, 2, 3, 13);
        x.reach(1, 30);
        x.connect(2, 3);
        x.pass(1);
        x.disconnect(0);
        x.connect(0, 2);
        x.pass(1);
        x.arrive(400, 400, 400, 400);
        Check.write(x, "0=a;1-");
        return x;
    }

    private static void tankers(JettyHoses x) {
        int[][] want = {
            // 460 less 10 + 10 in hour 1, 30 in hour 2, 20 in hour 3
            {80, 90, 110, 110, 40 + 390 / 20, 100 + 20 - 59, 1, 3},
            {1, 2, 3, 13, 40, 80, 1, 2},
            {400, 400, 400, 400, 120, 0, 0, 0},
        };
        for (int place = 0; place < want.length; place++) {
            for (int what = 0; what < 8; what++) {
                Check.due("15: tanker(" + place + ", " + what + ")", x.tanker(place, what), want[place][what]);
            }
        }
        Check.due("15: tanker(3, 0)", x.tanker(3, 0), NO_SUCH);
        Check.due("15: tanker(6, 0)", x.tanker(6, 0), NO_SUCH);
        Check.due("15: tanker(-1, 0)", x.tanker(-1, 0), NO_SUCH);
        Check.due("15: tanker(most, 7)", x.tanker(MOST, 7), NO_SUCH);
        Check.due("15: tanker(least, 7)", x.tanker(LEAST, 7), NO_SUCH);
        Check.due("15: tanker(0, 8)", x.tanker(0, 8), BAD_VALUE);
        Check.due("15: tanker(0, -1)", x.tanker(0, -1), BAD_VALUE);
        Check.due("15: tanker(9, 8)", x.tanker(9, 8), BAD_VALUE);
    }

    private static void hoses(JettyHoses x) {
        int[][] want = {
            {90, 2, 2, 0, 20, 10},
            {30, 1, NONE, 1, 10, 0},
            {90, 3, 3, 0, 20, 0},
            {90, NONE, NONE, 0, 0, 0},
        };
        for (int hose = 0; hose < want.length; hose++) {
            for (int what = 0; what < 6; what++) {
                Check.due("16: hose(" + hose + ", " + what + ")", x.hose(hose, what), want[hose][what]);
            }
            Check.due("16: hose(" + hose + ", 6)", x.hose(hose, 6), BAD_VALUE);
            Check.due("16: hose(" + hose + ", -1)", x.hose(hose, -1), BAD_VALUE);
        }
        Check.due("16: hose(4, 6)", x.hose(4, 6), NO_SUCH);
        Check.due("16: hose(-1, 0)", x.hose(-1, 0), NO_SUCH);
        Check.due("16: hose(most, least)", x.hose(MOST, LEAST), NO_SUCH);
    }

    private static void grades(JettyHoses x) {
        int[][] want = {
            {20, 80 + 1 + 400, 0, 0},
            {10, 90 + 2 + 400, 0, 10},
            {0, 110 + 3 + 400, 10, 0},
            {20, 110 + 13 + 400, 0, 0},
        };
        for (int grade = 0; grade < want.length; grade++) {
            for (int what = 0; what < 4; what++) {
                Check.due("17: grade(" + grade + ", " + what + ")", x.grade(grade, what), want[grade][what]);
            }
            Check.due("17: grade(" + grade + ", 4)", x.grade(grade, 4), BAD_VALUE);
            Check.due("17: grade(" + grade + ", -1)", x.grade(grade, -1), BAD_VALUE);
        }
        Check.due("17: grade(4, 4)", x.grade(4, 4), NO_SUCH);
        Check.due("17: grade(-1, 0)", x.grade(-1, 0), NO_SUCH);
        Check.due("17: grade(least, most)", x.grade(LEAST, MOST), NO_SUCH);
    }

    private static void counts(JettyHoses x) {
        int[] want = {90, 20, 5, 10, 24, 5, 3, 20, 110, 2, 1, 2, 1, 1, 10, 0, 0, 0, 6, 6};
        for (int what = 0; what < want.length; what++) {
            Check.due("18: count(" + what + ")", x.count(what), want[what]);
        }
        Check.due("18: count(20)", x.count(20), BAD_VALUE);
        Check.due("18: count(-1)", x.count(-1), BAD_VALUE);
        Check.due("18: count(least)", x.count(LEAST), BAD_VALUE);
        Check.due("18: count(most)", x.count(MOST), BAD_VALUE);
    }

    private static void tides() {
        JettyHoses x = new JettyHoses();
        int[] by20 = {0, 10, 18, 20, 18, 10, 0, -10, -18, -20, -18, -10};
        for (int hour = 0; hour < 30; hour++) {
            Check.due("19: tide(" + hour + ")", x.tide(hour), by20[hour % 12]);
        }
        // Rounded toward 0, on both sides.
        x.set(JettyHoses.AMPLITUDE, 7);
        int[] by7 = {0, 3, 6, 7, 6, 3, 0, -3, -6, -7, -6, -3};
        for (int hour = 0; hour < 12; hour++) {
            Check.due("19: by 7, tide(" + hour + ")", x.tide(hour), by7[hour]);
        }
        x.set(JettyHoses.AMPLITUDE, 0);
        Check.due("19: by 0", x.tide(3), 0);
        x.set(JettyHoses.AMPLITUDE, 40);
        Check.due("19: by 40", x.tide(9), -40);
        Check.due("19: tide(10000)", x.tide(10000), 36);
        Check.due("19: the last hour of all", x.tide(MOST), -20);
        Check.due("19: tide(-1)", x.tide(-1), BAD_VALUE);
        Check.due("19: tide(least)", x.tide(LEAST), BAD_VALUE);
    }
}
