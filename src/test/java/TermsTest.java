/** The boundary cases of the document's Terms, a test for each sentence; the sentence stands above its test. */
public final class TermsTest {
    private static final int NONE = JettyHoses.NONE, NO_SUCH = JettyHoses.NO_SUCH, NOT_POSSIBLE = JettyHoses.NOT_POSSIBLE;
    private static final int TOO_MANY = JettyHoses.TOO_MANY;

    public static void main(String[] args) {
        calls512();
        noneIsNoError();
        numberedFromZero();
        roundedTowardZero();
        settingsFirst();
        settingsAtTheirEnds();
        hoursFromZero();
        tideByTwelve();
        depthByTheTide();
        tanksHold1000();
        draughts();
        heights();
        fiveWait();
        oneAtTheBerth();
        floatsAtLeast();
        hosesAtFirst();
        boomAtFirst();
        boomHolds200();
        tornByMoreThan15();
        tornByTheAmplitudeNow();
        tornOnlyIfLaid();
        tornLosesWhatItHolds();
        tornBeforeWhatIsSpilt();
        burstsAboveItsReach();
        burstsWhenItsTurnComes();
        burstsAlsoAground();
        spillsAsManyAsThereAre();
        spillsToTheBoomOrTheSea();
        burstIsNotConnected();
        movesIfItFloats();
        movesIfASpillLiftsIt();
        movesIfTheBoomIsLaid();
        movesAsManyAs();
        movesByNumber();
        spoilsForAnHour();
        lastIfItMovesAny();
        costsBehindLay();
        costsEachTanker();
        Check.end("TermsTest");
    }

    // ---- states

    /** One tanker at the berth, floating at any tide; no tide; the boom laid. */
    private static JettyHoses still(int a, int b, int c, int d) {
        JettyHoses x = new JettyHoses();
        x.set(JettyHoses.DEPTH, 150);
        x.set(JettyHoses.AMPLITUDE, 0);
        x.arrive(a, b, c, d);
        x.berth();
        x.boom(true);
        return x;
    }

    /** Lets the hose burst in one hour, without a tide; the tanker has less than 800 units, and so is higher than 20. */
    private static void burst(JettyHoses x, int hose, int grade) {
        x.mend(hose);
        x.reach(hose, 120);
        x.connect(hose, grade);
        x.reach(hose, 20);
        x.pass(1);
        Check.due("burst", x.hose(hose, 3), 1);
    }

    // ---- conventions

    /** "An object is used for at most 512 calls after it has been made". */
    private static void calls512() {
        JettyHoses x = new JettyHoses();
        int hours = 0;
        for (int call = 1; call <= 511; call++) {
            if (call % 3 == 1) {
                hours++;
                Check.due("512: call " + call, x.pass(1), 0);
            } else if (call % 3 == 2) {
                Check.due("512: call " + call, x.count(6), hours);
            } else {
                Check.due("512: call " + call, x.count(19), Math.min(hours, 6));
            }
        }
        Check.due("512: the last call", x.undo(), 5);
    }

    /** "NONE (-100006) is not an error; it is returned only if no error applies." */
    private static void noneIsNoError() {
        Check.due("conventions: NONE", NONE, -100006);
        JettyHoses x = still(400, 400, 0, 0);
        x.connect(0, 0);
        Check.due("conventions: safeFor() is NONE", x.safeFor(0), NONE);
        Check.due("conventions: no hose, not NONE", x.safeFor(4), NO_SUCH);
        Check.due("conventions: not connected, not NONE", x.safeFor(1), NOT_POSSIBLE);
        Check.due("conventions: untilEmpty() is NONE", x.untilEmpty(), NONE);
        x.disconnect(0);
        x.leave();
        Check.due("conventions: no tanker, not NONE", x.untilEmpty(), NOT_POSSIBLE);
    }

    /** "Everything is numbered from 0." */
    private static void numberedFromZero() {
        JettyHoses x = still(1, 2, 3, 4);
        for (int i = 0; i < 4; i++) {
            Check.due("conventions: grade " + i, x.tanker(0, i), i + 1);
            Check.due("conventions: hose " + i, x.connect(i, i), i + 1);
            Check.due("conventions: hose " + i + " by grade " + i, x.hose(i, 2), i);
        }
        Check.due("conventions: no fifth hose", x.connect(4, 0), NO_SUCH);
        Check.due("conventions: no fifth grade", x.grade(4, 0), NO_SUCH);
    }

    /** "Divisions are rounded toward 0." */
    private static void roundedTowardZero() {
        int[][] tides = {
            {1, 0, 0, 0, 1, 0, 0, 0, 0, 0, -1, 0, 0},
            {3, 0, 1, 2, 3, 2, 1, 0, -1, -2, -3, -2, -1},
            {19, 0, 9, 17, 19, 17, 9, 0, -9, -17, -19, -17, -9},
            {39, 0, 19, 35, 39, 35, 19, 0, -19, -35, -39, -35, -19},
        };
        JettyHoses x = new JettyHoses();
        for (int[] row : tides) {
            x.set(JettyHoses.AMPLITUDE, row[0]);
            for (int hour = 0; hour < 12; hour++) {
                Check.due("conventions: by " + row[0] + ", tide(" + hour + ")", x.tide(hour), row[hour + 1]);
            }
        }
    }

    // ---- settings, the tide

    /** "(In parentheses: range; first value.)" */
    private static void settingsFirst() {
        JettyHoses x = new JettyHoses();
        int[] first = {90, 20, 5, 10, 24, 5};
        int[] settings = {
            JettyHoses.DEPTH, JettyHoses.AMPLITUDE, JettyHoses.KEEL, JettyHoses.RATE, JettyHoses.LAY, JettyHoses.PRICE,
        };
        for (int i = 0; i < 6; i++) {
            Check.due("settings: the number of " + i, settings[i], i);
            Check.due("settings: the first of " + i, x.count(i), first[i]);
        }
    }

    /** "DEPTH (50 to 150; 90). AMPLITUDE (0 to 40; 20). KEEL (0 to 20; 5). RATE (1 to 40; 10) ..": both ends are kept to. */
    private static void settingsAtTheirEnds() {
        JettyHoses x = new JettyHoses();
        x.set(JettyHoses.DEPTH, 50);
        Check.due("settings: DEPTH 50", x.count(8), 50);
        x.set(JettyHoses.DEPTH, 150);
        Check.due("settings: DEPTH 150", x.count(8), 150);
        x.set(JettyHoses.AMPLITUDE, 0);
        Check.due("settings: AMPLITUDE 0", x.tide(3), 0);
        x.set(JettyHoses.AMPLITUDE, 40);
        Check.due("settings: AMPLITUDE 40", x.tide(3), 40);

        x = still(100, 0, 0, 0);
        x.connect(0, 0);
        x.set(JettyHoses.RATE, 1);
        Check.due("settings: RATE 1", x.pass(1), 1);
        x.set(JettyHoses.RATE, 40);
        Check.due("settings: RATE 40", x.pass(1), 40);
        x.set(JettyHoses.LAY, 0);
        x.set(JettyHoses.PRICE, 1);
        x.pass(1);
        Check.due("settings: LAY 0, PRICE 1", x.count(17), 1);
        x.set(JettyHoses.PRICE, 99);
        x.pass(1);
        Check.due("settings: PRICE 99", x.count(17), 100);

        x = new JettyHoses();
        x.arrive(200, 0, 0, 0);
        x.set(JettyHoses.DEPTH, 50);
        x.set(JettyHoses.KEEL, 0);
        Check.due("settings: KEEL 0", x.tanker(1, 6), 1);
        x.set(JettyHoses.KEEL, 20);
        x.set(JettyHoses.DEPTH, 69);
        Check.due("settings: KEEL 20 is more than 19", x.tanker(1, 6), 0);
        x.set(JettyHoses.DEPTH, 70);
        Check.due("settings: KEEL 20", x.tanker(1, 6), 1);
    }

    /** "Hours are counted from 0." */
    private static void hoursFromZero() {
        JettyHoses x = new JettyHoses();
        Check.due("tide: the first hour", x.count(6), 0);
        Check.due("tide: the tide of the first hour", x.count(7), 0);
        x.pass(1);
        Check.due("tide: the next hour", x.count(6), 1);
        Check.due("tide: the tide of the next hour", x.count(7), 10);
    }

    /** "by what is left of h by 12: 0, 5, 9, 10, 9, 5, 0, -5, -9, -10, -9, -5". */
    private static void tideByTwelve() {
        JettyHoses x = new JettyHoses();
        int[] by20 = {0, 10, 18, 20, 18, 10, 0, -10, -18, -20, -18, -10};
        int[] hours = {0, 11, 12, 13, 23, 24, 35, 36, 9995, 9996, 9999, 10000, 2147483639, 2147483640, Integer.MAX_VALUE};
        int[] left = {0, 11, 0, 1, 11, 0, 11, 0, 11, 0, 3, 4, 11, 0, 7};
        for (int i = 0; i < hours.length; i++) {
            Check.due("tide: tide(" + hours[i] + ")", x.tide(hours[i]), by20[left[i]]);
        }
        for (int hour = 1; hour <= 25; hour++) {
            x.pass(1);
            Check.due("tide: at hour " + hour, x.count(7), by20[hour % 12]);
        }
    }

    /** "The depth is DEPTH and the tide, together." */
    private static void depthByTheTide() {
        JettyHoses x = new JettyHoses();
        x.set(JettyHoses.DEPTH, 50);
        x.set(JettyHoses.AMPLITUDE, 40);
        int[] by40 = {50, 70, 86, 90, 86, 70, 50, 30, 14, 10, 14, 30, 50};
        for (int hour = 0; hour <= 12; hour++) {
            Check.due("tide: the depth at hour " + hour, x.count(8), by40[hour]);
            x.pass(1);
        }
    }

    // ---- tankers, tanks

    /** "a tank for each, which holds at most 1000 units (0 at first)". */
    private static void tanksHold1000() {
        JettyHoses x = new JettyHoses();
        x.set(JettyHoses.DEPTH, 150);
        x.set(JettyHoses.AMPLITUDE, 0);
        x.set(JettyHoses.RATE, 40);
        x.boom(true);
        for (int grade = 0; grade < 4; grade++) {
            Check.due("tanks: at first", x.grade(grade, 0), 0);
        }
        for (int i = 0; i < 3; i++) {
            x.arrive(400, 400, 400, 400);
            x.berth();
            for (int hose = 0; hose < 4; hose++) {
                x.connect(hose, hose);
            }
            Check.due("tanks: 400 of each, then the room", x.pass(i == 2 ? 4 : 10), i == 2 ? 640 : 1600);
            if (i == 2) {
                // 960 of each: 40 fill them, and then there is no room.
                Check.due("tanks: to the brim", x.pass(1), 160);
                Check.due("tanks: no more", x.pass(1), 0);
                Check.due("tanks: nor by what is foreseen", x.ifPassed(200, 0), 0);
            }
            for (int hose = 0; hose < 4; hose++) {
                x.disconnect(hose);
            }
            x.leave();
        }
        for (int grade = 0; grade < 4; grade++) {
            Check.due("tanks: 1000 of " + grade, x.grade(grade, 0), 1000);
        }
    }

    /** "Its draught is 40 and, besides, its units of all grades together divided by 20 (with 400 units 60)". */
    private static void draughts() {
        int[][] loads = {
            {1, 0, 0, 0, 40}, {19, 0, 0, 0, 40}, {0, 0, 0, 20, 41}, {5, 5, 5, 4, 40}, {5, 5, 5, 5, 41}, {0, 39, 0, 0, 41},
            {0, 0, 399, 0, 59}, {0, 0, 400, 0, 60}, {100, 100, 100, 100, 60}, {400, 400, 400, 399, 119}, {400, 400, 400, 400, 120},
        };
        for (int[] load : loads) {
            JettyHoses x = new JettyHoses();
            x.arrive(load[0], load[1], load[2], load[3]);
            Check.due("tankers: a draught with " + load[0] + ", " + load[1] + ", " + load[2] + ", " + load[3], x.tanker(1, 4), load[4]);
        }
        JettyHoses x = still(20, 0, 0, 0);
        x.connect(0, 0);
        x.set(JettyHoses.RATE, 1);
        x.pass(1);
        Check.due("tankers: a draught with 19 left", x.tanker(0, 4), 40);
        x.set(JettyHoses.RATE, 40);
        x.pass(1);
        Check.due("tankers: a draught with none left", x.tanker(0, 4), 40);
    }

    /** "its height at an hour is 100 and the tide, less its draught". */
    private static void heights() {
        JettyHoses x = new JettyHoses();
        x.set(JettyHoses.AMPLITUDE, 40);
        x.arrive(1, 0, 0, 0);
        x.arrive(400, 400, 400, 400);
        x.pass(3);
        Check.due("tankers: the greatest height", x.tanker(1, 5), 100);
        Check.due("tankers: of a full one", x.tanker(2, 5), 20);
        x.pass(6);
        Check.due("tankers: at the lowest tide", x.tanker(1, 5), 20);
        Check.due("tankers: the least height", x.tanker(2, 5), -60);
    }

    /** "Up to 5 tankers wait, in the order in which they came". */
    private static void fiveWait() {
        JettyHoses x = new JettyHoses();
        for (int i = 1; i <= 5; i++) {
            Check.due("tankers: " + i + " wait", x.arrive(0, 0, 0, i), i);
        }
        Check.due("tankers: no sixth", x.arrive(0, 0, 0, 6), TOO_MANY);
        for (int i = 1; i <= 5; i++) {
            Check.due("tankers: the place " + i, x.tanker(i, 3), i);
        }
        for (int i = 1; i <= 5; i++) {
            Check.due("tankers: the first goes first", x.berth(), i);
            Check.due("tankers: they move up", x.count(9), 5 - i);
            Check.due("tankers: the next one", x.tanker(1, 3), i < 5 ? i + 1 : NO_SUCH);
            x.leave();
        }
    }

    /** "one can lie at the berth." */
    private static void oneAtTheBerth() {
        JettyHoses x = new JettyHoses();
        x.arrive(1, 0, 0, 0);
        x.arrive(2, 0, 0, 0);
        Check.due("tankers: none lies there", x.count(10), 0);
        Check.due("tankers: one comes", x.berth(), 1);
        Check.due("tankers: one lies there", x.count(10), 1);
        Check.due("tankers: no second", x.berth(), NOT_POSSIBLE);
        Check.due("tankers: the second waits", x.tanker(1, 0), 2);
    }

    /** "A tanker floats, if the depth is at least its draught and KEEL, together." */
    private static void floatsAtLeast() {
        JettyHoses x = new JettyHoses();
        x.arrive(100, 100, 100, 100);
        x.arrive(1, 0, 0, 0);
        int[] depths = {64, 65, 66};
        for (int depth : depths) {
            x.set(JettyHoses.DEPTH, depth);
            Check.due("tankers: floats at " + depth, x.tanker(1, 6), depth < 65 ? 0 : 1);
            Check.due("tankers: the other floats at " + depth, x.tanker(2, 6), 1);
        }
        x.set(JettyHoses.DEPTH, 55);
        x.pass(1);
        Check.due("tankers: floats with a tide of 10", x.tanker(1, 6), 1);
        x.set(JettyHoses.DEPTH, 85);
        x.pass(8);
        Check.due("tankers: floats with a tide of -20", x.tanker(1, 6), 1);
        x.set(JettyHoses.KEEL, 6);
        Check.due("tankers: not with more below its keel", x.tanker(1, 6), 0);
    }

    // ---- hoses, the boom

    /** "4 hoses, 0 to 3, each with a reach, 20 to 120 (90 at first), a grade that was in it last (or none; so at first) ..". */
    private static void hosesAtFirst() {
        JettyHoses x = new JettyHoses();
        int[] first = {90, NONE, NONE, 0, 0, 0};
        for (int i = 0; i < 24; i++) {
            Check.due("hoses: hose(" + i / 6 + ", " + i % 6 + ")", x.hose(i / 6, i % 6), first[i % 6]);
        }
        for (int hose = 0; hose < 4; hose++) {
            Check.due("hoses: the least reach", x.reach(hose, 20), 90);
            Check.due("hoses: the greatest reach", x.reach(hose, 120), 20);
        }
    }

    /** "The boom is out (so at first) or laid". */
    private static void boomAtFirst() {
        JettyHoses x = new JettyHoses();
        Check.due("boom: out at first", x.count(13), 0);
        Check.due("boom: it holds nothing", x.count(14), 0);
        Check.due("boom: it is out already", x.boom(false), NOT_POSSIBLE);
        Check.due("boom: it can be laid", x.boom(true), 0);
    }

    /** "and holds units of what was spilt, 200 at most." */
    private static void boomHolds200() {
        JettyHoses x = still(400, 200, 0, 0);
        x.set(JettyHoses.RATE, 40);
        for (int i = 0; i < 4; i++) {
            burst(x, 0, 0);
        }
        burst(x, 0, 1);
        Check.due("boom: 200, and full", x.count(14), 200);
        Check.due("boom: nothing to the sea yet", x.count(15), 0);
        x.set(JettyHoses.RATE, 1);
        burst(x, 0, 1);
        Check.due("boom: no more than 200", x.count(14), 200);
        Check.due("boom: one to the sea", x.count(15), 1);
        Check.due("boom: 200 are caught", x.boom(false), 200);
        Check.due("boom: count(16)", x.count(16), 200);

        x = still(200, 400, 0, 0);
        x.set(JettyHoses.RATE, 39);
        for (int i = 0; i < 5; i++) {
            burst(x, 1, 1);
        }
        Check.due("boom: 195", x.count(14), 195);
        x.set(JettyHoses.RATE, 5);
        burst(x, 1, 0);
        Check.due("boom: just full", x.count(14), 200);
        Check.due("boom: nothing to the sea", x.count(15), 0);
    }

    // ---- an hour: the boom is torn

    private static boolean isTornInHour(int amplitude, int hour) {
        JettyHoses x = new JettyHoses();
        x.set(JettyHoses.AMPLITUDE, amplitude);
        if (hour > 1) {
            x.pass(hour - 1);
        }
        x.boom(true);
        x.pass(1);
        return x.count(13) == 0;
    }

    /** "If the boom is laid, and the tide differs by more than 15 from that of the hour before, .. it is torn". */
    private static void tornByMoreThan15() {
        int[] amplitudes = {0, 31, 32, 38, 39, 40};
        // By the hour, from 1 to 12: 'x' is torn. 12 comes behind 11, with -AMPLITUDE * 5 / 10 to 0.
        String[] torn = {"............", "............", "x....xx....x", "x....xx....x", "xx..xxxx..xx", "xx..xxxx..xx"};
        for (int i = 0; i < amplitudes.length; i++) {
            for (int hour = 1; hour <= 24; hour++) {
                boolean isDue = torn[i].charAt((hour - 1) % 12) == 'x';
                Check.due("hour 1: torn by " + amplitudes[i] + " in hour " + hour, isTornInHour(amplitudes[i], hour) ? 1 : 0, isDue ? 1 : 0);
            }
        }
    }

    /** "(both by AMPLITUDE as it is now)". */
    private static void tornByTheAmplitudeNow() {
        JettyHoses x = new JettyHoses();
        x.set(JettyHoses.AMPLITUDE, 0);
        x.pass(3);
        x.boom(true);
        x.set(JettyHoses.AMPLITUDE, 40);
        x.pass(1);
        Check.due("hour 1: from 0 to 36 by another amplitude", x.count(13), 1);
        x.set(JettyHoses.AMPLITUDE, 0);
        x.pass(1);
        Check.due("hour 1: from 36 to 0 by another amplitude", x.count(13), 1);
        x.set(JettyHoses.AMPLITUDE, 40);
        x.pass(1);
        Check.due("hour 1: from 20 to 0 by the same", x.count(13), 0);
    }

    /** "If the boom is laid": one that is out is not torn, and can be laid behind a strong tide. */
    private static void tornOnlyIfLaid() {
        JettyHoses x = new JettyHoses();
        x.set(JettyHoses.AMPLITUDE, 40);
        x.pass(2);
        Check.due("hour 1: out", x.count(13), 0);
        Check.due("hour 1: nothing is lost", x.count(15), 0);
        Check.due("hour 1: laid behind it", x.boom(true), 0);
        x.pass(2);
        Check.due("hour 1: two weaker hours", x.count(13), 1);
    }

    /** "it is out then, and what it holds is lost to the sea." */
    private static void tornLosesWhatItHolds() {
        JettyHoses x = still(400, 0, 0, 0);
        x.boom(false);
        burst(x, 0, 0);
        Check.due("hour 1: lost before", x.count(15), 10);
        x.boom(true);
        burst(x, 0, 0);
        burst(x, 1, 0);
        x.boom(false);
        x.boom(true);
        burst(x, 0, 0);
        Check.due("hour 1: held", x.count(14), 10);
        Check.due("hour 1: caught before", x.count(16), 20);
        x.pass(1);
        x.set(JettyHoses.AMPLITUDE, 40);
        x.pass(1);
        Check.due("hour 1: in hour 6 from 20 to 0", x.count(6), 6);
        Check.due("hour 1: out", x.count(13), 0);
        Check.due("hour 1: holds nothing", x.count(14), 0);
        Check.due("hour 1: lost besides what was lost", x.count(15), 20);
        Check.due("hour 1: caught as before", x.count(16), 20);
        x.boom(true);
        x.set(JettyHoses.AMPLITUDE, 0);
        burst(x, 0, 0);
        Check.due("hour 1: laid anew, it has room", x.count(14), 10);
    }

    /** The steps go one after the other: what is spilt in the hour in which the boom is torn goes to the sea, and nothing moves. */
    private static void tornBeforeWhatIsSpilt() {
        JettyHoses x = still(400, 200, 0, 0);
        burst(x, 0, 0);
        x.connect(1, 1);
        x.connect(2, 1);
        x.reach(1, 20);
        x.set(JettyHoses.AMPLITUDE, 40);
        Check.due("hour 1: nothing moves", x.pass(1), 0);
        Check.due("hour 1: what it held, and what is spilt", x.count(15), 20);
        Check.due("hour 1: hose 2 is connected", x.hose(2, 2), 1);
        Check.due("hour 1: it moved nothing", x.hose(2, 4), 0);
    }

    // ---- an hour: hoses burst

    /** "Each connected hose, by its number, bursts, if the height of the tanker at the berth is above its reach". */
    private static void burstsAboveItsReach() {
        JettyHoses x = still(400, 0, 0, 0);
        for (int hose = 0; hose < 4; hose++) {
            x.connect(hose, 0);
            x.reach(hose, 39 + hose);
        }
        x.set(JettyHoses.RATE, 1);
        x.boom(false);
        x.pass(1);
        // The height is 40; what hose 0 spills makes it 41.
        int[] burst = {1, 1, 0, 0};
        for (int hose = 0; hose < 4; hose++) {
            Check.due("hour 2: hose " + hose, x.hose(hose, 3), burst[hose]);
        }
        x = still(400, 0, 0, 0);
        x.reach(0, 20);
        x.pass(1);
        Check.due("hour 2: not connected, it does not burst", x.hose(0, 3), 0);
        x.connect(1, 0);
        x.reach(1, 40);
        x.boom(false);
        x.pass(1);
        Check.due("hour 2: just at its reach", x.hose(1, 3), 0);
        x.reach(1, 39);
        x.pass(1);
        Check.due("hour 2: above its reach", x.hose(1, 3), 1);
    }

    /** "(when its turn comes: what was spilt by a hose ahead of it counts)". */
    private static void burstsWhenItsTurnComes() {
        for (int ahead = 0; ahead < 4; ahead++) {
            JettyHoses x = still(400, 0, 0, 0);
            for (int hose = 0; hose < 4; hose++) {
                x.connect(hose, 0);
                x.reach(hose, hose == ahead ? 39 : 40);
            }
            x.pass(1);
            for (int hose = 0; hose < 4; hose++) {
                Check.due("hour 2: hose " + hose + " by hose " + ahead, x.hose(hose, 3), hose < ahead ? 0 : 1);
            }
            Check.due("hour 2: spilt by " + ahead + " and those behind", x.grade(0, 3), 10 * (4 - ahead));
        }
    }

    /** Step 2 asks neither for a float nor for a boom. */
    private static void burstsAlsoAground() {
        JettyHoses x = still(400, 0, 0, 0);
        x.boom(false);
        x.connect(0, 0);
        x.reach(0, 20);
        x.set(JettyHoses.DEPTH, 50);
        x.pass(1);
        Check.due("hour 2: aground", x.tanker(0, 6), 0);
        Check.due("hour 2: burst", x.hose(0, 3), 1);
        Check.due("hour 2: to the sea", x.count(15), 10);
    }

    /** "as many units as RATE, or as the tanker has of its grade, are spilt: they leave the tanker". */
    private static void spillsAsManyAsThereAre() {
        int[] has = {0, 1, 9, 10, 11};
        for (int units : has) {
            JettyHoses x = still(units, 1, 0, 0);
            burst(x, 3, 0);
            int spilt = Math.min(units, 10);
            Check.due("hour 2: spilt of " + units, x.grade(0, 3), spilt);
            Check.due("hour 2: left of " + units, x.tanker(0, 0), units - spilt);
            Check.due("hour 2: held of " + units, x.count(14), spilt);
            Check.due("hour 2: another grade stays", x.tanker(0, 1), 1);
        }
        JettyHoses x = still(15, 0, 0, 0);
        x.connect(0, 0);
        x.connect(1, 0);
        x.reach(0, 20);
        x.reach(1, 20);
        x.pass(1);
        Check.due("hour 2: 10 and then 5", x.count(14), 15);
        Check.due("hour 2: none left", x.tanker(0, 0), 0);
    }

    /** "and go to the boom, as many as it has room for if it is laid, the rest to the sea." */
    private static void spillsToTheBoomOrTheSea() {
        JettyHoses x = still(400, 200, 0, 0);
        x.set(JettyHoses.RATE, 39);
        for (int i = 0; i < 5; i++) {
            burst(x, 0, 0);
        }
        x.set(JettyHoses.RATE, 10);
        burst(x, 0, 0);
        Check.due("hour 2: 5 to the boom", x.count(14), 200);
        Check.due("hour 2: 5 to the sea", x.count(15), 5);
        burst(x, 0, 1);
        Check.due("hour 2: no room", x.count(14), 200);
        Check.due("hour 2: all to the sea", x.count(15), 15);
        x.boom(false);
        burst(x, 0, 1);
        Check.due("hour 2: not laid", x.count(14), 0);
        Check.due("hour 2: all to the sea again", x.count(15), 25);
        Check.due("hour 2: spilt of a", x.grade(0, 3), 205);
        Check.due("hour 2: spilt of b", x.grade(1, 3), 20);
    }

    /** "The hose is not connected any more then." */
    private static void burstIsNotConnected() {
        JettyHoses x = still(400, 0, 0, 0);
        burst(x, 2, 0);
        Check.due("hour 2: by no grade", x.hose(2, 2), NONE);
        Check.due("hour 2: count(11)", x.count(11), 0);
        Check.due("hour 2: it can leave", x.leave(), 390);

        x = still(400, 0, 0, 0);
        x.connect(2, 0);
        x.reach(2, 20);
        Check.due("hour 2: it moves nothing in its hour", x.pass(1), 0);
        Check.due("hour 2: nor later", x.pass(5), 0);
        Check.due("hour 2: and bursts once", x.grade(0, 3), 10);
    }

    // ---- an hour: units move

    /** "If the tanker at the berth floats ..": by the tide of that hour, just so or just not. */
    private static void movesIfItFloats() {
        int[] depths = {74, 75};
        for (int depth : depths) {
            // A draught of 60 and a keel of 5, and in hour 9 a tide of -10.
            JettyHoses x = still(400, 0, 0, 0);
            x.connect(0, 0);
            x.boom(false);
            x.pass(8);
            x.boom(true);
            x.set(JettyHoses.AMPLITUDE, 10);
            x.set(JettyHoses.DEPTH, depth);
            Check.due("hour 3: at " + depth, x.pass(1), depth == 75 ? 10 : 0);
            Check.due("hour 3: what was in it", x.hose(0, 1), depth == 75 ? 0 : NONE);
        }
    }

    /** What step 2 spills lifts the tanker, so that it floats in step 3 of the same hour. */
    private static void movesIfASpillLiftsIt() {
        JettyHoses x = still(60, 0, 0, 0);
        x.connect(0, 0);
        x.connect(1, 0);
        x.set(JettyHoses.DEPTH, 50);
        x.set(JettyHoses.KEEL, 8);
        Check.due("hour 3: aground by 1", x.pass(1), 0);
        Check.due("hour 3: its draught is 43", x.tanker(0, 4), 43);
        x.reach(1, 20);
        Check.due("hour 3: lifted by 10 that are spilt", x.pass(1), 10);
        Check.due("hour 3: 40 are left", x.tanker(0, 0), 40);
    }

    /** ".. and the boom is laid". */
    private static void movesIfTheBoomIsLaid() {
        JettyHoses x = still(400, 0, 0, 0);
        x.connect(0, 0);
        x.boom(false);
        Check.due("hour 3: out", x.pass(48), 0);
        Check.due("hour 3: all are there", x.tanker(0, 0), 400);
        x.boom(true);
        Check.due("hour 3: laid", x.pass(1), 10);
    }

    /** "moves units of its grade, as many as RATE, or as the tanker has, or as the tank has room for." */
    private static void movesAsManyAs() {
        int[] has = {0, 1, 9, 10, 11};
        for (int units : has) {
            JettyHoses x = still(0, 1, units, 0);
            x.connect(0, 2);
            int moved = Math.min(units, 10);
            Check.due("hour 3: as many as the tanker has, " + units, x.pass(1), moved);
            Check.due("hour 3: in the tank", x.grade(2, 0), moved);
            Check.due("hour 3: in the tanker", x.tanker(0, 2), units - moved);
            Check.due("hour 3: none of another", x.tanker(0, 1), 1);
        }
        int[] rooms = {0, 1, 9, 10, 11};
        for (int room : rooms) {
            JettyHoses x = fullTank();
            if (room > 0) {
                x.draw(0, room);
            }
            x.set(JettyHoses.RATE, 10);
            int moved = Math.min(room, 10);
            Check.due("hour 3: as many as there is room for, " + room, x.pass(1), moved);
            Check.due("hour 3: the tank", x.grade(0, 0), 1000 - room + moved);
            Check.due("hour 3: the tanker", x.tanker(0, 0), 200 - moved);
        }
    }

    /** 1000 units of a in the tank, 200 at the berth, hose 0 connected by a. */
    private static JettyHoses fullTank() {
        JettyHoses x = still(400, 0, 0, 0);
        x.set(JettyHoses.RATE, 40);
        x.connect(0, 0);
        x.pass(10);
        for (int i = 0; i < 2; i++) {
            x.disconnect(0);
            x.leave();
            x.arrive(400, 400, 0, 0);
            x.berth();
            x.connect(0, 0);
            x.pass(10);
        }
        Check.due("a full tank", x.grade(0, 0), 1000);
        return x;
    }

    /** "each connected hose, by its number": the first ones take what the tanker has, and the room. */
    private static void movesByNumber() {
        JettyHoses x = still(25, 0, 0, 0);
        x.connect(3, 0);
        x.connect(1, 0);
        x.connect(2, 0);
        Check.due("hour 3: 10, 10, 5", x.pass(1), 25);
        Check.due("hour 3: hose 1", x.hose(1, 4), 10);
        Check.due("hour 3: hose 2", x.hose(2, 4), 10);
        Check.due("hour 3: hose 3", x.hose(3, 4), 5);

        x = fullTank();
        x.connect(2, 0);
        x.connect(1, 0);
        x.set(JettyHoses.RATE, 10);
        x.draw(0, 15);
        Check.due("hour 3: room for 10, 5, 0", x.pass(1), 15);
        Check.due("hour 3: hose 0 took its room first", x.hose(0, 4), 1010);
        Check.due("hour 3: hose 1 took the rest", x.hose(1, 4), 5);
        Check.due("hour 3: hose 2 had no room", x.hose(2, 4), 0);
        Check.due("hour 3: and nothing was in it", x.hose(2, 1), NONE);
    }

    /** "If another grade was in the hose last, the units that it moves in this hour are spoilt". */
    private static void spoilsForAnHour() {
        JettyHoses x = still(100, 100, 0, 0);
        x.connect(0, 0);
        Check.due("hour 3: none was in it", x.pass(1), 10);
        x.disconnect(0);
        x.connect(0, 0);
        Check.due("hour 3: the same was in it", x.pass(1), 10);
        x.disconnect(0);
        x.connect(0, 1);
        Check.due("hour 3: another was in it", x.pass(1), 0);
        Check.due("hour 3: they leave the tanker", x.tanker(0, 1), 90);
        Check.due("hour 3: and do not come into the tank", x.grade(1, 0), 0);
        Check.due("hour 3: nor into the other", x.grade(0, 0), 20);
        Check.due("hour 3: the next hour", x.pass(1), 10);
        x.disconnect(0);
        x.connect(0, 0);
        x.set(JettyHoses.RATE, 7);
        Check.due("hour 3: and back", x.pass(1), 0);
        Check.due("hour 3: spoilt by the hose, together", x.hose(0, 5), 17);
        Check.due("hour 3: spoilt of a", x.grade(0, 2), 7);
        x.pass(1);
        x.disconnect(0);
        x.connect(0, 1);
        x.pass(1);
        Check.due("hour 3: spoilt of b, together", x.grade(1, 2), 17);
        Check.due("hour 3: spoilt by the hose, all together", x.hose(0, 5), 24);
        Check.due("hour 3: by no other", x.hose(1, 5), 0);
    }

    /** "If it moves any, this grade was in it last then." */
    private static void lastIfItMovesAny() {
        JettyHoses x = still(100, 1, 0, 0);
        x.connect(0, 0);
        Check.due("hour 3: connected alone puts none in it", x.hose(0, 1), NONE);
        x.pass(1);
        Check.due("hour 3: a", x.hose(0, 1), 0);
        x.disconnect(0);
        x.connect(0, 2);
        x.pass(3);
        Check.due("hour 3: of c there is none", x.hose(0, 1), 0);
        x.disconnect(0);
        x.connect(0, 1);
        x.pass(1);
        Check.due("hour 3: one unit of b, though spoilt", x.hose(0, 1), 1);
        Check.due("hour 3: it is spoilt", x.hose(0, 5), 1);

        x = fullTank();
        x.connect(1, 1);
        x.set(JettyHoses.RATE, 1);
        x.pass(1);
        x.disconnect(1);
        x.connect(1, 0);
        x.pass(1);
        Check.due("hour 3: no room, and so none moved", x.hose(1, 1), 1);
        Check.due("hour 3: none spoilt", x.grade(0, 2), 0);
    }

    // ---- an hour: demurrage

    /** "that has been there for more than LAY hours costs PRICE." */
    private static void costsBehindLay() {
        int[] lays = {0, 1, 24, 99};
        for (int lay : lays) {
            JettyHoses x = new JettyHoses();
            x.pass(5);
            x.set(JettyHoses.LAY, lay);
            x.arrive(1, 0, 0, 0);
            for (int hour = 1; hour <= lay; hour++) {
                x.pass(1);
            }
            Check.due("hour 4: behind " + lay, x.count(17), 0);
            x.pass(1);
            Check.due("hour 4: an hour more than " + lay, x.count(17), 5);
            x.set(JettyHoses.PRICE, 99);
            x.pass(1);
            Check.due("hour 4: by the price as it is then, " + lay, x.count(17), 104);
        }
    }

    /** "Each tanker, at the berth or waiting". */
    private static void costsEachTanker() {
        JettyHoses x = new JettyHoses();
        x.set(JettyHoses.LAY, 0);
        x.set(JettyHoses.PRICE, 1);
        x.pass(1);
        Check.due("hour 4: none is there", x.count(17), 0);
        x.arrive(1, 0, 0, 0);
        x.berth();
        for (int i = 0; i < 5; i++) {
            x.arrive(1, 0, 0, 0);
        }
        x.pass(1);
        Check.due("hour 4: six", x.count(17), 6);
        x.leave();
        x.pass(1);
        Check.due("hour 4: five that wait", x.count(17), 11);
        x.berth();
        x.boom(true);
        x.connect(0, 0);
        x.pass(1);
        Check.due("hour 4: also one that is empty", x.tanker(0, 0), 0);
        Check.due("hour 4: five", x.count(17), 16);
    }
}
