/** Promise 13, and what happens in an hour. */
public final class HourTest {
    private static final int BAD_VALUE = JettyHoses.BAD_VALUE, TOO_MANY = JettyHoses.TOO_MANY, NONE = JettyHoses.NONE;

    public static void main(String[] args) {
        hours();
        theLastHour();
        torn();
        tornWithWhatItHolds();
        tornAheadOfTheBurst();
        burstingAtTheEdge();
        burstingInTurn();
        spillingWithoutABoom();
        spillingMoreThanTheBoomHolds();
        spillingAsManyAsThereAre();
        moving();
        movingNeedsAFloatAndABoom();
        movingIntoAFullTank();
        spoiling();
        spoilingIntoAFullTank();
        nothingMovedLeavesWhatWasIn();
        demurrage();
        Check.end("HourTest");
    }

    /** A jetty with one tanker at the berth, and the boom laid. */
    private static JettyHoses jettyWith(int a, int b, int c, int d) {
        JettyHoses x = new JettyHoses();
        x.arrive(a, b, c, d);
        x.set(JettyHoses.DEPTH, 150);
        x.berth();
        x.boom(true);
        return x;
    }

    private static void hours() {
        JettyHoses x = new JettyHoses();
        Check.due("13: 0", x.pass(0), BAD_VALUE);
        Check.due("13: -1", x.pass(-1), BAD_VALUE);
        Check.due("13: 49", x.pass(49), BAD_VALUE);
        Check.due("13: most", x.pass(Integer.MAX_VALUE), BAD_VALUE);
        Check.due("13: still 0", x.count(6), 0);
        Check.due("13: 1", x.pass(1), 0);
        Check.due("13: hour 1", x.count(6), 1);
        Check.due("13: tide 10", x.count(7), 10);
        Check.due("13: depth 100", x.count(8), 100);
        Check.due("13: 48", x.pass(48), 0);
        Check.due("13: hour 49", x.count(6), 49);
    }

    private static void theLastHour() {
        JettyHoses x = new JettyHoses();
        for (int i = 0; i < 208; i++) {
            x.pass(48);
        }
        Check.due("13: hour", x.count(6), 9984);
        Check.due("13: 16 are too many", x.pass(16), TOO_MANY);
        Check.due("13: a value is refused first", x.pass(49), BAD_VALUE);
        Check.due("13: still there", x.count(6), 9984);
        Check.due("13: 15", x.pass(15), 0);
        Check.due("13: hour 9999", x.count(6), 9999);
        Check.due("13: one is too many", x.pass(1), TOO_MANY);
        x.arrive(20, 0, 0, 0);
        x.berth();
        x.boom(true);
        x.connect(0, 0);
        Check.due("13: what if goes on", x.ifPassed(5, 0), 20);
        Check.due("13: what if goes on, too", x.untilEmpty(), 2);
        Check.due("13: and on", x.ifPassed(200, 3), 176 * 5);
    }

    private static void torn() {
        JettyHoses x = new JettyHoses();
        x.boom(true);
        x.set(JettyHoses.AMPLITUDE, 31);
        x.pass(1);
        Check.due("13: a change of 15", x.tide(1), 15);
        Check.due("13: does not tear", x.count(13), 1);
        x.pass(12);
        Check.due("13: nor in a whole tide", x.count(13), 1);

        x = new JettyHoses();
        x.boom(true);
        x.set(JettyHoses.AMPLITUDE, 32);
        x.pass(1);
        Check.due("13: a change of 16 tears", x.count(13), 0);

        x = new JettyHoses();
        x.pass(5);
        x.set(JettyHoses.AMPLITUDE, 33);
        x.boom(true);
        x.pass(1);
        Check.due("13: also one down", x.count(13), 0);

        x = new JettyHoses();
        x.pass(3);
        x.boom(true);
        x.set(JettyHoses.AMPLITUDE, 0);
        x.pass(1);
        Check.due("13: both tides by the amplitude now", x.count(13), 1);
    }

    private static void tornWithWhatItHolds() {
        JettyHoses x = jettyWith(400, 0, 0, 0);
        x.connect(0, 0);
        x.reach(0, 20);
        x.pass(1);
        Check.due("13: it holds", x.count(14), 10);
        x.pass(5);
        x.set(JettyHoses.AMPLITUDE, 40);
        x.pass(1);
        Check.due("13: it is torn", x.count(13), 0);
        Check.due("13: it holds nothing", x.count(14), 0);
        Check.due("13: lost to the sea", x.count(15), 10);
        Check.due("13: nothing is caught", x.count(16), 0);
    }

    private static void tornAheadOfTheBurst() {
        JettyHoses x = jettyWith(400, 400, 0, 0);
        x.connect(0, 0);
        x.connect(1, 1);
        x.reach(0, 20);
        x.set(JettyHoses.AMPLITUDE, 40);
        Check.due("13: nothing moves without a boom", x.pass(1), 0);
        Check.due("13: all to the sea", x.count(15), 10);
        Check.due("13: nothing held", x.count(14), 0);
        Check.due("13: the other is connected", x.hose(1, 2), 1);
    }

    private static void burstingAtTheEdge() {
        JettyHoses x = jettyWith(400, 0, 0, 0);
        x.connect(0, 0);
        x.connect(1, 0);
        x.reach(0, 50);
        x.reach(1, 49);
        x.pass(1);
        Check.due("13: just so high", x.hose(0, 3), 0);
        Check.due("13: it moved", x.hose(0, 4), 10);
        Check.due("13: higher than its reach", x.hose(1, 3), 1);
        Check.due("13: it moved nothing", x.hose(1, 4), 0);
        Check.due("13: not connected", x.hose(1, 2), NONE);
        Check.due("13: spilt", x.grade(0, 3), 10);
        Check.due("13: held", x.count(14), 10);
        Check.due("13: in the tank", x.grade(0, 0), 10);
        Check.due("13: in the tanker", x.tanker(0, 0), 380);
        Check.due("13: spilt is not spoilt", x.grade(0, 2), 0);
    }

    private static void burstingInTurn() {
        JettyHoses x = jettyWith(400, 0, 0, 0);
        x.set(JettyHoses.RATE, 20);
        x.connect(0, 0);
        x.connect(1, 0);
        x.connect(2, 0);
        // At hour 1 the height is 50; what hose 1 spills makes it 51, and that comes too late for hose 0.
        x.reach(0, 50);
        x.reach(1, 49);
        x.reach(2, 50);
        Check.due("13: only hose 0 moves", x.pass(1), 20);
        Check.due("13: hose 0", x.hose(0, 3), 0);
        Check.due("13: hose 1", x.hose(1, 3), 1);
        Check.due("13: hose 2", x.hose(2, 3), 1);
        Check.due("13: both spilt", x.grade(0, 3), 40);
        Check.due("13: burst", x.count(12), 2);
        Check.due("13: connected", x.count(11), 1);
    }

    private static void spillingWithoutABoom() {
        JettyHoses x = jettyWith(400, 0, 0, 0);
        x.boom(false);
        x.connect(0, 0);
        x.reach(0, 20);
        x.pass(1);
        Check.due("13: to the sea", x.count(15), 10);
        Check.due("13: spilt, too", x.grade(0, 3), 10);
        Check.due("13: from the tanker", x.tanker(0, 0), 390);
        Check.due("13: not held", x.count(14), 0);
    }

    private static void spillingMoreThanTheBoomHolds() {
        JettyHoses x = jettyWith(100, 100, 100, 100);
        x.set(JettyHoses.RATE, 40);
        for (int i = 0; i < 4; i++) {
            x.connect(i, i);
            x.reach(i, 20);
        }
        x.pass(1);
        Check.due("13: held 160", x.count(14), 160);
        x.mend(0);
        x.mend(1);
        x.set(JettyHoses.RATE, 30);
        for (int i = 0; i < 2; i++) {
            x.reach(i, 120);
            x.connect(i, i);
            x.reach(i, 20);
        }
        x.pass(1);
        Check.due("13: held 200", x.count(14), 200);
        Check.due("13: the rest to the sea", x.count(15), 20);
        Check.due("13: all are spilt", x.grade(1, 3), 70);
        Check.due("13: taken out", x.boom(false), 200);
        Check.due("13: caught", x.count(16), 200);
    }

    private static void spillingAsManyAsThereAre() {
        JettyHoses x = jettyWith(7, 0, 0, 400);
        x.connect(0, 0);
        x.connect(1, 1);
        x.reach(0, 20);
        x.reach(1, 20);
        x.pass(1);
        Check.due("13: seven", x.grade(0, 3), 7);
        Check.due("13: none", x.grade(1, 3), 0);
        Check.due("13: it is burst yet", x.hose(1, 3), 1);
        Check.due("13: held", x.count(14), 7);
        Check.due("13: none is left", x.tanker(0, 0), 0);
    }

    private static void moving() {
        JettyHoses x = jettyWith(25, 0, 400, 0);
        x.connect(0, 0);
        x.connect(3, 0);
        x.connect(1, 2);
        Check.due("13: 10, 10, 10", x.pass(1), 30);
        Check.due("13: 5, 0, 10", x.pass(1), 15);
        Check.due("13: 0, 0, 10", x.pass(1), 10);
        Check.due("13: the first goes first", x.hose(0, 4), 15);
        Check.due("13: the last goes last", x.hose(3, 4), 10);
        Check.due("13: tank a", x.grade(0, 0), 25);
        Check.due("13: tank c", x.grade(2, 0), 30);
        Check.due("13: a was in it", x.hose(0, 1), 0);
        Check.due("13: c was in it", x.hose(1, 1), 2);
        Check.due("13: no grade was in it", x.hose(2, 1), NONE);
        Check.due("13: not spoilt", x.hose(1, 5), 0);
    }

    private static void movingNeedsAFloatAndABoom() {
        JettyHoses x = jettyWith(100, 0, 0, 0);
        x.connect(0, 0);
        x.boom(false);
        Check.due("13: no boom", x.pass(1), 0);
        x.boom(true);
        // The draught is 45, so that it floats at a depth of 65; hour 2 has the tide 13, hour 3 the tide 15.
        x.set(JettyHoses.DEPTH, 50);
        x.set(JettyHoses.KEEL, 20);
        x.set(JettyHoses.AMPLITUDE, 15);
        Check.due("13: aground at 63", x.pass(1), 0);
        Check.due("13: it floats at 65", x.pass(1), 10);
        Check.due("13: tanker(0, 6)", x.tanker(0, 6), 1);
        Check.due("13: it moved once", x.hose(0, 4), 10);
    }

    private static void movingIntoAFullTank() {
        JettyHoses x = new JettyHoses();
        x.set(JettyHoses.DEPTH, 150);
        x.set(JettyHoses.RATE, 37);
        x.boom(true);
        for (int i = 0; i < 3; i++) {
            x.arrive(400, 0, 0, 0);
            x.berth();
            x.connect(0, 0);
            Check.due("13: of 400", x.pass(24), i == 2 ? 200 : 400);
            x.disconnect(0);
            Check.due("13: what it has left", x.leave(), i == 2 ? 200 : 0);
        }
        Check.due("13: full", x.grade(0, 0), 1000);
        Check.due("13: the whole of it can be drawn", x.draw(0, 1000), 0);
        Check.due("13: the hose moved", x.hose(0, 4), 1000);
    }

    private static void spoiling() {
        JettyHoses x = jettyWith(100, 100, 0, 0);
        x.connect(0, 0);
        x.pass(1);
        x.disconnect(0);
        x.connect(0, 1);
        Check.due("13: spoilt do not come into a tank", x.pass(1), 0);
        Check.due("13: spoilt b", x.grade(1, 2), 10);
        Check.due("13: not a", x.grade(0, 2), 0);
        Check.due("13: by the hose", x.hose(0, 5), 10);
        Check.due("13: from the tanker", x.tanker(0, 1), 90);
        Check.due("13: not into the tank", x.grade(1, 0), 0);
        Check.due("13: b was in it", x.hose(0, 1), 1);
        Check.due("13: moved before", x.hose(0, 4), 10);
        Check.due("13: the next are good", x.pass(1), 10);
        Check.due("13: tank b", x.grade(1, 0), 10);
        x.disconnect(0);
        x.connect(0, 1);
        Check.due("13: the same grade again", x.pass(1), 10);
        Check.due("13: no more spoilt", x.hose(0, 5), 10);
    }

    private static void spoilingIntoAFullTank() {
        JettyHoses x = new JettyHoses();
        x.set(JettyHoses.DEPTH, 150);
        x.set(JettyHoses.RATE, 40);
        x.set(JettyHoses.AMPLITUDE, 0);
        x.boom(true);
        for (int i = 0; i < 3; i++) {
            x.arrive(400, 0, 0, 0);
            x.berth();
            x.connect(0, 0);
            x.pass(10);
            x.disconnect(0);
            x.leave();
        }
        x.draw(0, 7);
        x.arrive(100, 100, 0, 0);
        x.berth();
        x.connect(1, 1);
        x.pass(1);
        x.disconnect(1);
        x.connect(1, 0);
        Check.due("13: spoilt, as many as there is room for", x.pass(1), 0);
        Check.due("13: seven", x.hose(1, 5), 7);
        Check.due("13: the tank is as it was", x.grade(0, 0), 993);
        Check.due("13: the next are good", x.pass(1), 7);
        Check.due("13: full", x.grade(0, 0), 1000);
        Check.due("13: none", x.pass(1), 0);
        x.connect(2, 1);
        x.pass(1);
        x.disconnect(2);
        x.connect(2, 0);
        Check.due("13: nothing moves into a full tank", x.pass(1), 0);
        Check.due("13: nor is spoilt", x.hose(2, 5), 0);
        Check.due("13: b was in it last", x.hose(2, 1), 1);
    }

    private static void nothingMovedLeavesWhatWasIn() {
        JettyHoses x = jettyWith(100, 0, 0, 0);
        x.connect(0, 0);
        x.pass(1);
        x.disconnect(0);
        x.connect(0, 3);
        x.pass(1);
        Check.due("13: it has no d", x.hose(0, 1), 0);
        Check.due("13: nothing is spoilt", x.grade(3, 2), 0);
    }

    private static void demurrage() {
        JettyHoses x = new JettyHoses();
        x.set(JettyHoses.LAY, 3);
        x.set(JettyHoses.PRICE, 7);
        x.arrive(10, 0, 0, 0);
        x.berth();
        x.pass(1);
        x.arrive(10, 0, 0, 0);
        x.pass(2);
        Check.due("13: 3 hours cost nothing", x.count(17), 0);
        x.pass(1);
        Check.due("13: the fourth costs, at the berth", x.count(17), 7);
        x.pass(1);
        Check.due("13: both, one of them waits", x.count(17), 21);
        x.leave();
        x.pass(1);
        Check.due("13: one is left", x.count(17), 28);
        x.set(JettyHoses.LAY, 0);
        x.set(JettyHoses.PRICE, 1);
        x.arrive(10, 0, 0, 0);
        x.pass(2);
        Check.due("13: from the first hour", x.count(17), 32);
    }
}
