/** Promises 20 to 24: what would be, without a change. */
public final class WhatIfTest {
    private static final int NO_SUCH = JettyHoses.NO_SUCH, BAD_VALUE = JettyHoses.BAD_VALUE;
    private static final int NOT_POSSIBLE = JettyHoses.NOT_POSSIBLE, NONE = JettyHoses.NONE;
    private static final int LEAST = Integer.MIN_VALUE, MOST = Integer.MAX_VALUE;

    public static void main(String[] args) {
        floating();
        floatingOfTheFirst();
        safe();
        safeWhileItRises();
        safeForTwoHundredHours();
        empty();
        emptyInTwoHundredHours();
        passed();
        passedSpoilingEachGrade();
        passedTorn();
        passedWrongly();
        least();
        leastWhileItRises();
        leastForTwoHundredHours();
        leastBehindAHoseThatBursts();
        nothingChanges();
        Check.end("WhatIfTest");
    }

    private static JettyHoses jettyWith(int a, int b, int c, int d) {
        JettyHoses x = new JettyHoses();
        x.arrive(a, b, c, d);
        x.set(JettyHoses.DEPTH, 150);
        x.berth();
        return x;
    }

    private static void floating() {
        JettyHoses x = new JettyHoses();
        Check.due("20: none waits", x.untilFloats(), NOT_POSSIBLE);
        x.arrive(400, 0, 0, 0);
        Check.due("20: it does now", x.untilFloats(), 0);
        x.set(JettyHoses.DEPTH, 65);
        Check.due("20: it does just so", x.untilFloats(), 0);
        x.set(JettyHoses.DEPTH, 64);
        Check.due("20: behind an hour", x.untilFloats(), 1);
        x.set(JettyHoses.DEPTH, 50);
        Check.due("20: behind two", x.untilFloats(), 2);
        x.set(JettyHoses.AMPLITUDE, 15);
        Check.due("20: behind three", x.untilFloats(), 3);
        x.set(JettyHoses.AMPLITUDE, 14);
        Check.due("20: in none", x.untilFloats(), NONE);
        x.set(JettyHoses.AMPLITUDE, 15);
        x.pass(4);
        Check.due("20: just missed", x.untilFloats(), 11);
        x.set(JettyHoses.KEEL, 0);
        Check.due("20: with less below the keel", x.untilFloats(), 0);
        x.pass(3);
        Check.due("20: at hour 7", x.count(6), 7);
        Check.due("20: behind seven", x.untilFloats(), 7);
    }

    private static void floatingOfTheFirst() {
        JettyHoses x = new JettyHoses();
        x.arrive(400, 0, 0, 0);
        x.berth();
        Check.due("20: one at the berth does not wait", x.untilFloats(), NOT_POSSIBLE);
        x.arrive(400, 400, 0, 0);
        x.arrive(1, 0, 0, 0);
        x.set(JettyHoses.DEPTH, 80);
        Check.due("20: the first, though the berth is taken", x.untilFloats(), 1);
        x.set(JettyHoses.DEPTH, 65);
        Check.due("20: at the top of the tide", x.untilFloats(), 3);
        x.set(JettyHoses.DEPTH, 64);
        Check.due("20: not the second", x.untilFloats(), NONE);
    }

    private static void safe() {
        JettyHoses x = new JettyHoses();
        Check.due("21: no hose 4", x.safeFor(4), NO_SUCH);
        Check.due("21: no hose -1", x.safeFor(-1), NO_SUCH);
        Check.due("21: no hose, far off", x.safeFor(MOST), NO_SUCH);
        Check.due("21: not connected", x.safeFor(3), NOT_POSSIBLE);
        x = jettyWith(400, 0, 0, 0);
        x.connect(3, 0);
        // The boom is out, so that nothing moves: the height is 40 and the tide.
        int[] reach = {60, 59, 58, 57, 50, 49, 20};
        int[] hours = {NONE, 2, 2, 1, 1, 0, 0};
        for (int i = 0; i < reach.length; i++) {
            x.reach(3, reach[i]);
            Check.due("21: with a reach of " + reach[i], x.safeFor(3), hours[i]);
        }
        x.reach(3, 90);
        x.pass(6);
        x.reach(3, 50);
        Check.due("21: at hour 6", x.safeFor(3), 7);
        Check.due("21: nothing has changed", x.hose(3, 2), 0);
    }

    private static void safeWhileItRises() {
        JettyHoses x = jettyWith(400, 0, 0, 0);
        x.boom(true);
        x.connect(0, 0);
        x.reach(0, 80);
        Check.due("21: 80 are enough", x.safeFor(0), NONE);
        x.reach(0, 79);
        Check.due("21: 79 are, until it is empty and the tide is high", x.safeFor(0), 50);
        x.reach(0, 78);
        Check.due("21: 78 are until hour 39", x.safeFor(0), 38);
    }

    private static JettyHoses slowJetty(int a) {
        JettyHoses x = jettyWith(a, 0, 0, 0);
        x.set(JettyHoses.AMPLITUDE, 0);
        x.set(JettyHoses.RATE, 1);
        x.boom(true);
        x.connect(0, 0);
        x.reach(0, 50);
        return x;
    }

    /** By one unit an hour the draught comes below 50 when 199 units are left. */
    private static void safeForTwoHundredHours() {
        Check.due("21: bursts in the 200th hour", slowJetty(398).safeFor(0), 199);
        Check.due("21: bursts in the 201st hour", slowJetty(399).safeFor(0), NONE);
    }

    private static void empty() {
        JettyHoses x = new JettyHoses();
        Check.due("22: none", x.untilEmpty(), NOT_POSSIBLE);
        x.arrive(35, 0, 0, 0);
        Check.due("22: none at the berth", x.untilEmpty(), NOT_POSSIBLE);
        x.berth();
        Check.due("22: no hose", x.untilEmpty(), NONE);
        x.connect(0, 0);
        Check.due("22: no boom", x.untilEmpty(), NONE);
        x.boom(true);
        Check.due("22: 10, 10, 10, 5", x.untilEmpty(), 4);
        x.connect(2, 0);
        Check.due("22: 20, 15", x.untilEmpty(), 2);
        x.pass(1);
        Check.due("22: 15", x.untilEmpty(), 1);
        x.pass(1);
        Check.due("22: it is", x.untilEmpty(), 0);

        x = jettyWith(9, 0, 0, 0);
        x.connect(0, 0);
        x.reach(0, 20);
        Check.due("22: by a spill", x.untilEmpty(), 1);

        x = jettyWith(10, 10, 0, 0);
        x.boom(true);
        x.connect(0, 0);
        Check.due("22: another grade stays", x.untilEmpty(), NONE);
    }

    private static void emptyInTwoHundredHours() {
        int[] units = {1, 199, 200, 201};
        int[] hours = {1, 199, 200, NONE};
        for (int i = 0; i < units.length; i++) {
            JettyHoses x = slowJetty(units[i]);
            x.reach(0, 120);
            Check.due("22: of " + units[i], x.untilEmpty(), hours[i]);
        }
    }

    private static void passed() {
        JettyHoses x = new JettyHoses();
        x.arrive(35, 100, 0, 0);
        x.set(JettyHoses.DEPTH, 150);
        x.berth();
        x.boom(true);
        x.connect(0, 0);
        x.pass(1);
        x.disconnect(0);
        x.connect(0, 1);
        x.connect(1, 0);
        // Hour 2: 10 of b are spoilt, 10 of a move; then 10 and 10, 10 and 5, 10 and so on.
        int[] hours = {1, 2, 3, 4, 10, 23, 24, 25, 200};
        int[] stored = {10, 30, 45, 55, 115, 115, 115, 115, 115};
        int[] costs = {0, 0, 0, 0, 0, 0, 5, 10, 885};
        for (int i = 0; i < hours.length; i++) {
            Check.due("23: stored in " + hours[i], x.ifPassed(hours[i], 0), stored[i]);
            Check.due("23: lost in " + hours[i], x.ifPassed(hours[i], 1), 0);
            Check.due("23: spoilt in " + hours[i], x.ifPassed(hours[i], 2), 10);
            Check.due("23: costs in " + hours[i], x.ifPassed(hours[i], 3), costs[i]);
        }
        x.pass(48);
        Check.due("23: only what comes, not what is", x.ifPassed(1, 2), 0);
        Check.due("23: the same of costs", x.ifPassed(2, 3), 10);
        Check.due("23: the same of what is stored", x.ifPassed(2, 0), 0);
    }

    private static void passedSpoilingEachGrade() {
        for (int grade = 0; grade < 4; grade++) {
            JettyHoses x = jettyWith(100, 100, 100, 100);
            x.boom(true);
            x.connect(0, (grade + 1) % 4);
            x.pass(1);
            x.disconnect(0);
            x.connect(0, grade);
            x.set(JettyHoses.RATE, 3 + grade);
            Check.due("23: spoilt of " + grade, x.ifPassed(2, 2), 3 + grade);
            Check.due("23: and not into the tank", x.ifPassed(2, 0), 3 + grade);
        }
    }

    private static void passedTorn() {
        JettyHoses x = jettyWith(400, 400, 0, 0);
        x.boom(true);
        x.connect(0, 0);
        x.reach(0, 20);
        x.pass(1);
        Check.due("23: held", x.count(14), 10);
        x.connect(1, 1);
        x.set(JettyHoses.AMPLITUDE, 40);
        // Hour 2 (16 higher) tears the boom, and nothing moves any more; hose 1 bursts in hour 3, by a height of 61.
        x.reach(1, 57);
        Check.due("23: nothing moves", x.ifPassed(1, 0), 0);
        Check.due("23: what it held is lost", x.ifPassed(1, 1), 10);
        Check.due("23: and what hose 1 spills", x.ifPassed(2, 1), 20);
        Check.due("23: spilt is not spoilt", x.ifPassed(200, 2), 0);
        x.pass(1);
        Check.due("23: only what comes is lost", x.ifPassed(1, 1), 10);
    }

    private static void passedWrongly() {
        JettyHoses x = new JettyHoses();
        Check.due("23: 0 hours", x.ifPassed(0, 0), BAD_VALUE);
        Check.due("23: -1 hours", x.ifPassed(-1, 0), BAD_VALUE);
        Check.due("23: 201 hours", x.ifPassed(201, 0), BAD_VALUE);
        Check.due("23: least", x.ifPassed(LEAST, 0), BAD_VALUE);
        Check.due("23: what -1", x.ifPassed(1, -1), BAD_VALUE);
        Check.due("23: what 4", x.ifPassed(1, 4), BAD_VALUE);
        Check.due("23: most", x.ifPassed(MOST, MOST), BAD_VALUE);
        for (int what = 0; what < 4; what++) {
            Check.due("23: nothing comes of nothing", x.ifPassed(200, what), 0);
        }
    }

    private static void least() {
        JettyHoses x = new JettyHoses();
        Check.due("24: no hose 4", x.leastReach(4), NO_SUCH);
        Check.due("24: no hose -1", x.leastReach(-1), NO_SUCH);
        Check.due("24: no hose, far off", x.leastReach(LEAST), NO_SUCH);
        Check.due("24: not connected", x.leastReach(0), NOT_POSSIBLE);
        x = jettyWith(400, 0, 0, 0);
        x.connect(2, 0);
        Check.due("24: by the tide alone", x.leastReach(2), 60);
        x.reach(2, 20);
        Check.due("24: its reach does not matter", x.leastReach(2), 60);
        x.set(JettyHoses.AMPLITUDE, 0);
        Check.due("24: without a tide", x.leastReach(2), 40);
        x = jettyWith(400, 400, 0, 0);
        x.set(JettyHoses.AMPLITUDE, 0);
        x.connect(0, 0);
        Check.due("24: just 20", x.leastReach(0), 20);
        x = jettyWith(400, 400, 300, 0);
        x.set(JettyHoses.AMPLITUDE, 0);
        x.connect(0, 0);
        Check.due("24: no less than 20", x.leastReach(0), 20);
    }

    private static void leastWhileItRises() {
        JettyHoses x = jettyWith(400, 0, 0, 0);
        x.boom(true);
        x.connect(0, 0);
        Check.due("24: empty and high", x.leastReach(0), 80);
        x.reach(0, 20);
        Check.due("24: it stays connected and moves", x.leastReach(0), 80);
        Check.due("24: its reach is as it was", x.hose(0, 0), 20);
        x.set(JettyHoses.AMPLITUDE, 40);
        // The boom is torn in the first hour, so that the tanker stays full.
        Check.due("24: by a great tide", x.leastReach(0), 80);
        x.set(JettyHoses.AMPLITUDE, 39);
        Check.due("24: by one that is less", x.leastReach(0), 79);
    }

    private static void leastForTwoHundredHours() {
        Check.due("24: counts the 200th hour", slowJetty(398).leastReach(0), 51);
        Check.due("24: not the 201st hour", slowJetty(399).leastReach(0), 50);
    }

    private static void leastBehindAHoseThatBursts() {
        JettyHoses x = jettyWith(400, 0, 0, 0);
        x.set(JettyHoses.AMPLITUDE, 0);
        x.set(JettyHoses.RATE, 20);
        x.connect(0, 0);
        x.connect(1, 0);
        x.connect(2, 0);
        x.reach(1, 30);
        Check.due("24: ahead of it, an hour later", x.leastReach(0), 41);
        Check.due("24: it itself does not burst", x.leastReach(1), 40);
        Check.due("24: behind it, when its turn comes", x.leastReach(2), 41);
        x.reach(2, 40);
        Check.due("24: two of them burst", x.leastReach(0), 42);
        Check.due("24: of itself it bursts the next no more", x.leastReach(1), 40);
    }

    private static void nothingChanges() {
        JettyHoses x = jettyWith(400, 100, 50, 3);
        x.boom(true);
        x.connect(0, 0);
        x.connect(1, 1);
        x.reach(1, 55);
        x.arrive(1, 2, 3, 4);
        x.pass(1);
        int[] before = Check.picture(x);
        int changes = x.count(19);
        x.untilFloats();
        x.safeFor(1);
        x.untilEmpty();
        x.ifPassed(200, 1);
        x.leastReach(0);
        x.leastReach(1);
        Check.duePicture("20 to 24 change nothing", x, before);
        Check.due("20 to 24 are no changes", x.count(19), changes);
    }
}
