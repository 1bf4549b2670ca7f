/** Promises 1 to 12: a new object, and every change but the hours and the orders. */
public final class ChangesTest {
    private static final int NO_SUCH = JettyHoses.NO_SUCH, BAD_VALUE = JettyHoses.BAD_VALUE, TOO_MANY = JettyHoses.TOO_MANY;
    private static final int NOT_POSSIBLE = JettyHoses.NOT_POSSIBLE, NONE = JettyHoses.NONE;
    private static final int LEAST = Integer.MIN_VALUE, MOST = Integer.MAX_VALUE;

    public static void main(String[] args) {
        aNewObject();
        settings();
        arriving();
        arrivingWrongly();
        berthing();
        berthingWhileMoreCome();
        leaving();
        reaching();
        connecting();
        connectingHeight();
        disconnecting();
        flushing();
        flushingLittle();
        mending();
        booming();
        drawing();
        Check.end("ChangesTest");
    }

    private static void aNewObject() {
        JettyHoses x = new JettyHoses();
        int[] counts = {90, 20, 5, 10, 24, 5, 0, 0, 90, 0, 0, 0, 0, 0, 0, 0, 0, 0, 0, 0};
        for (int what = 0; what < counts.length; what++) {
            Check.due("1: count(" + what + ")", x.count(what), counts[what]);
        }
        int[] hose = {90, NONE, NONE, 0, 0, 0};
        for (int i = 0; i < 4; i++) {
            for (int what = 0; what < hose.length; what++) {
                Check.due("1: hose(" + i + ", " + what + ")", x.hose(i, what), hose[what]);
            }
            for (int what = 0; what < 4; what++) {
                Check.due("1: grade(" + i + ", " + what + ")", x.grade(i, what), 0);
            }
        }
        for (int place = 0; place < 6; place++) {
            Check.due("1: tanker(" + place + ", 0)", x.tanker(place, 0), NO_SUCH);
        }
        Check.due("1: fault()", x.fault(), 0);
        Check.due("1: undo()", x.undo(), NOT_POSSIBLE);
        Check.due("1: restore(0)", x.restore(0), NOT_POSSIBLE);
        Check.due("1: restore(1)", x.restore(1), NOT_POSSIBLE);
    }

    private static void settings() {
        JettyHoses x = new JettyHoses();
        int[] least = {50, 0, 0, 1, 0, 1};
        int[] most = {150, 40, 20, 40, 99, 99};
        int[] first = {90, 20, 5, 10, 24, 5};
        for (int i = 0; i < 6; i++) {
            Check.due("2: below " + i, x.set(i, least[i] - 1), BAD_VALUE);
            Check.due("2: above " + i, x.set(i, most[i] + 1), BAD_VALUE);
            Check.due("2: far below " + i, x.set(i, LEAST), BAD_VALUE);
            Check.due("2: far above " + i, x.set(i, MOST), BAD_VALUE);
            Check.due("2: unchanged " + i, x.count(i), first[i]);
            Check.due("2: the least " + i, x.set(i, least[i]), first[i]);
            Check.due("2: is the least " + i, x.count(i), least[i]);
            Check.due("2: the most " + i, x.set(i, most[i]), least[i]);
            Check.due("2: is the most " + i, x.count(i), most[i]);
        }
        Check.due("2: set(-1, 60)", x.set(-1, 60), BAD_VALUE);
        Check.due("2: set(6, 5)", x.set(6, 5), BAD_VALUE);
        Check.due("2: set(least, 5)", x.set(LEAST, 5), BAD_VALUE);
        Check.due("2: set(most, 5)", x.set(MOST, 5), BAD_VALUE);
        Check.due("2: changes", x.count(19), 6);
    }

    private static void arriving() {
        JettyHoses x = new JettyHoses();
        Check.due("3: the first", x.arrive(1, 2, 3, 4), 1);
        Check.due("3: of one unit", x.arrive(0, 0, 0, 1), 2);
        Check.due("3: full", x.arrive(400, 400, 400, 400), 3);
        Check.due("3: hours", x.pass(2), 0);
        Check.due("3: the fourth", x.arrive(0, 7, 0, 0), 4);
        for (int i = 0; i < 4; i++) {
            Check.due("3: tanker(1, " + i + ")", x.tanker(1, i), i + 1);
            Check.due("3: tanker(3, " + i + ")", x.tanker(3, i), 400);
        }
        Check.due("3: it came before", x.tanker(1, 7), 2);
        Check.due("3: it came now", x.tanker(4, 7), 0);
        Check.due("3: the fifth", x.arrive(0, 0, 8, 0), 5);
        Check.due("3: count(9)", x.count(9), 5);
        Check.due("3: one too many", x.arrive(1, 1, 1, 1), TOO_MANY);
        Check.due("3: a value is refused first", x.arrive(0, 0, 0, 0), BAD_VALUE);
        Check.due("3: a value is refused first, too", x.arrive(0, 0, 401, 0), BAD_VALUE);
        Check.due("3: berth()", x.berth(), 10);
        Check.due("3: again a place", x.arrive(9, 0, 0, 0), 5);
        Check.due("3: tanker(5, 0)", x.tanker(5, 0), 9);
        Check.due("3: tanker(5, 1)", x.tanker(5, 1), 0);
    }

    private static void arrivingWrongly() {
        JettyHoses x = new JettyHoses();
        Check.due("3: nothing in it", x.arrive(0, 0, 0, 0), BAD_VALUE);
        int[] bad = {-1, 401, LEAST, MOST};
        for (int i = 0; i < bad.length; i++) {
            Check.due("3: a " + bad[i], x.arrive(bad[i], 5, 5, 5), BAD_VALUE);
            Check.due("3: b " + bad[i], x.arrive(5, bad[i], 5, 5), BAD_VALUE);
            Check.due("3: c " + bad[i], x.arrive(5, 5, bad[i], 5), BAD_VALUE);
            Check.due("3: d " + bad[i], x.arrive(5, 5, 5, bad[i]), BAD_VALUE);
        }
        Check.due("3: none waits", x.count(9), 0);
        Check.due("3: no change", x.count(19), 0);
    }

    private static void berthing() {
        JettyHoses x = new JettyHoses();
        Check.due("4: none waits", x.berth(), NOT_POSSIBLE);
        x.arrive(100, 100, 100, 100);
        x.arrive(0, 0, 60, 0);
        x.set(JettyHoses.DEPTH, 64);
        Check.due("4: does not float at 64", x.berth(), NOT_POSSIBLE);
        Check.due("4: still waits", x.count(9), 2);
        x.set(JettyHoses.DEPTH, 65);
        Check.due("4: floats at 65", x.berth(), 400);
        Check.due("4: count(9)", x.count(9), 1);
        Check.due("4: count(10)", x.count(10), 1);
        Check.due("4: tanker(0, 3)", x.tanker(0, 3), 100);
        Check.due("4: the next moves up", x.tanker(1, 2), 60);
        Check.due("4: no third", x.tanker(2, 0), NO_SUCH);
        Check.due("4: one lies there", x.berth(), NOT_POSSIBLE);
        Check.due("4: it leaves", x.leave(), 400);
        x.set(JettyHoses.DEPTH, 90);
        Check.due("4: the second", x.berth(), 60);
        Check.due("4: none waits any more", x.berth(), NOT_POSSIBLE);
        Check.due("4: tanker(0, 2)", x.tanker(0, 2), 60);

        x = new JettyHoses();
        x.arrive(400, 400, 400, 400);
        Check.due("4: too deep without the tide", x.berth(), NOT_POSSIBLE);
        x.set(JettyHoses.AMPLITUDE, 40);
        x.pass(1);
        Check.due("4: 110 is too little", x.berth(), NOT_POSSIBLE);
        x.pass(1);
        Check.due("4: with the tide 126", x.berth(), 1600);
    }

    /** More tankers than there are places, so that each place is used again. */
    private static void berthingWhileMoreCome() {
        JettyHoses x = new JettyHoses();
        x.arrive(1, 0, 0, 0);
        x.berth();
        for (int i = 2; i <= 6; i++) {
            x.arrive(i, 2 * i, 0, 0);
        }
        for (int first = 1; first <= 12; first++) {
            Check.due("4: five wait", x.count(9), 5);
            for (int place = 0; place < 6; place++) {
                Check.due("4: tanker(" + place + ", 0) behind " + first, x.tanker(place, 0), first + place);
            }
            x.leave();
            x.berth();
            x.arrive(first + 6, 2 * first, 0, 0);
        }
    }

    private static void leaving() {
        JettyHoses x = new JettyHoses();
        Check.due("5: none is there", x.leave(), NOT_POSSIBLE);
        x.arrive(100, 100, 100, 100);
        Check.due("5: none is at the berth", x.leave(), NOT_POSSIBLE);
        x.berth();
        x.set(JettyHoses.DEPTH, 64);
        Check.due("5: aground", x.leave(), NOT_POSSIBLE);
        x.set(JettyHoses.DEPTH, 65);
        x.connect(1, 2);
        Check.due("5: a hose is connected", x.leave(), NOT_POSSIBLE);
        x.disconnect(1);
        Check.due("5: leaves", x.leave(), 400);
        Check.due("5: the berth is free", x.count(10), 0);
        Check.due("5: tanker(0, 0)", x.tanker(0, 0), NO_SUCH);
        Check.due("5: units are gone", x.grade(0, 1), 0);
        Check.due("5: not again", x.leave(), NOT_POSSIBLE);
    }

    private static void reaching() {
        JettyHoses x = new JettyHoses();
        Check.due("6: the least", x.reach(0, 20), 90);
        Check.due("6: the most", x.reach(0, 120), 20);
        Check.due("6: another", x.reach(3, 60), 90);
        Check.due("6: hose(0, 0)", x.hose(0, 0), 120);
        Check.due("6: hose(3, 0)", x.hose(3, 0), 60);
        Check.due("6: below", x.reach(0, 19), BAD_VALUE);
        Check.due("6: above", x.reach(0, 121), BAD_VALUE);
        Check.due("6: no hose -1", x.reach(-1, 50), NO_SUCH);
        Check.due("6: no hose 4", x.reach(4, 50), NO_SUCH);
        Check.due("6: no such comes first", x.reach(4, 19), NO_SUCH);
        Check.due("6: far off", x.reach(LEAST, MOST), NO_SUCH);
        Check.due("6: changes", x.count(19), 3);
    }

    private static void connecting() {
        JettyHoses x = new JettyHoses();
        Check.due("7: no tanker", x.connect(0, 0), NOT_POSSIBLE);
        Check.due("7: no hose 4", x.connect(4, 0), NO_SUCH);
        Check.due("7: no hose -1", x.connect(-1, 0), NO_SUCH);
        Check.due("7: no grade 4", x.connect(0, 4), NO_SUCH);
        Check.due("7: no grade -1", x.connect(0, -1), NO_SUCH);
        x.arrive(0, 0, 0, 400);
        Check.due("7: a tanker that waits is none", x.connect(0, 0), NOT_POSSIBLE);
        x.berth();
        Check.due("7: by d", x.connect(2, 3), 1);
        Check.due("7: by d, too", x.connect(3, 3), 2);
        Check.due("7: by a grade of which it has none", x.connect(0, 0), 3);
        Check.due("7: hose(2, 2)", x.hose(2, 2), 3);
        Check.due("7: hose(0, 2)", x.hose(0, 2), 0);
        Check.due("7: hose(1, 2)", x.hose(1, 2), NONE);
        Check.due("7: count(11)", x.count(11), 3);
        Check.due("7: is connected", x.connect(2, 1), NOT_POSSIBLE);
        Check.due("7: hose(2, 2) as before", x.hose(2, 2), 3);
        Check.due("7: no such comes first", x.connect(2, 9), NO_SUCH);
        Check.due("7: no grade was in it by that", x.hose(2, 1), NONE);
    }

    private static void connectingHeight() {
        JettyHoses x = new JettyHoses();
        x.arrive(100, 0, 0, 0);
        x.berth();
        x.reach(0, 54);
        x.reach(1, 55);
        Check.due("7: height", x.tanker(0, 5), 55);
        Check.due("7: too high", x.connect(0, 0), NOT_POSSIBLE);
        Check.due("7: just so high", x.connect(1, 0), 1);
        x.pass(1);
        Check.due("7: has burst", x.hose(1, 3), 1);
        x.reach(1, 120);
        Check.due("7: is burst", x.connect(1, 0), NOT_POSSIBLE);
        x.mend(1);
        Check.due("7: is mended", x.connect(1, 0), 1);
        x.set(JettyHoses.DEPTH, 50);
        x.set(JettyHoses.KEEL, 20);
        Check.due("7: aground", x.tanker(0, 6), 0);
        Check.due("7: also aground", x.connect(2, 1), 2);
    }

    private static void disconnecting() {
        JettyHoses x = new JettyHoses();
        Check.due("8: no hose -1", x.disconnect(-1), NO_SUCH);
        Check.due("8: no hose 4", x.disconnect(4), NO_SUCH);
        Check.due("8: is not connected", x.disconnect(0), NOT_POSSIBLE);
        x.arrive(0, 50, 0, 0);
        x.berth();
        x.connect(0, 1);
        x.connect(1, 2);
        x.boom(true);
        x.pass(1);
        Check.due("8: by c", x.disconnect(1), 2);
        Check.due("8: by b", x.disconnect(0), 1);
        Check.due("8: b was in it", x.hose(0, 1), 1);
        Check.due("8: nothing was in it", x.hose(1, 1), NONE);
        Check.due("8: hose(0, 2)", x.hose(0, 2), NONE);
        Check.due("8: none any more", x.disconnect(0), NOT_POSSIBLE);
        Check.due("8: count(11)", x.count(11), 0);
    }

    private static void flushing() {
        JettyHoses x = new JettyHoses();
        Check.due("9: no hose -1", x.flush(-1), NO_SUCH);
        Check.due("9: no hose 4", x.flush(4), NO_SUCH);
        Check.due("9: no grade was in it", x.flush(0), NOT_POSSIBLE);
        x.arrive(0, 0, 100, 100);
        x.berth();
        x.boom(true);
        x.connect(1, 2);
        x.connect(2, 3);
        Check.due("9: moved", x.pass(1), 20);
        Check.due("9: is connected", x.flush(1), NOT_POSSIBLE);
        x.disconnect(1);
        Check.due("9: five", x.flush(1), 5);
        Check.due("9: tank", x.grade(2, 0), 5);
        Check.due("9: the other tank", x.grade(3, 0), 10);
        Check.due("9: spoilt of the grade", x.grade(2, 2), 5);
        Check.due("9: not by the hose", x.hose(1, 5), 0);
        Check.due("9: moved as it was", x.hose(1, 4), 10);
        Check.due("9: no grade in it", x.hose(1, 1), NONE);
        Check.due("9: not to the sea", x.count(15), 0);
        Check.due("9: not spilt", x.grade(2, 3), 0);
        Check.due("9: not again", x.flush(1), NOT_POSSIBLE);
        x.connect(1, 3);
        Check.due("9: spoils nothing then", x.pass(1), 20);
    }

    private static void flushingLittle() {
        JettyHoses x = new JettyHoses();
        x.arrive(100, 0, 0, 0);
        x.berth();
        x.boom(true);
        x.set(JettyHoses.RATE, 8);
        x.connect(0, 0);
        x.connect(1, 0);
        x.connect(2, 0);
        x.pass(1);
        for (int i = 0; i < 3; i++) {
            x.disconnect(i);
        }
        x.draw(0, 17);
        Check.due("9: of 7", x.flush(0), 5);
        Check.due("9: of 2", x.flush(1), 2);
        Check.due("9: of 0", x.flush(2), 0);
        Check.due("9: spoilt", x.grade(0, 2), 7);
        Check.due("9: hose 2 is flushed, too", x.hose(2, 1), NONE);
        x.undo();
        Check.due("9: that was a change", x.hose(2, 1), 0);
        Check.due("9: the latest alone", x.hose(1, 1), NONE);

        x = new JettyHoses();
        x.arrive(100, 0, 0, 0);
        x.berth();
        x.boom(true);
        x.connect(0, 0);
        x.pass(1);
        x.reach(0, 50);
        x.pass(1);
        Check.due("9: is burst", x.hose(0, 3), 1);
        Check.due("9: what was in it when it burst", x.hose(0, 1), 0);
        Check.due("9: also of one that is burst", x.flush(0), 5);
        Check.due("9: is burst still", x.hose(0, 3), 1);
    }

    private static void mending() {
        JettyHoses x = new JettyHoses();
        Check.due("10: no hose -1", x.mend(-1), NO_SUCH);
        Check.due("10: no hose 4", x.mend(4), NO_SUCH);
        Check.due("10: is not burst", x.mend(0), NOT_POSSIBLE);
        x.arrive(400, 0, 0, 0);
        x.berth();
        x.boom(true);
        x.connect(0, 0);
        x.connect(3, 0);
        x.pass(1);
        Check.due("10: connected, not burst", x.mend(3), NOT_POSSIBLE);
        x.reach(0, 20);
        x.reach(3, 20);
        x.pass(1);
        Check.due("10: burst", x.count(12), 2);
        Check.due("10: not connected", x.hose(3, 2), NONE);
        Check.due("10: the first is mended", x.mend(3), 1);
        Check.due("10: no grade in it", x.hose(3, 1), NONE);
        Check.due("10: the other is as it was", x.hose(0, 1), 0);
        Check.due("10: nor connected", x.hose(3, 2), NONE);
        Check.due("10: not burst", x.hose(3, 3), 0);
        Check.due("10: not again", x.mend(3), NOT_POSSIBLE);
        Check.due("10: the second is mended", x.mend(0), 0);
        Check.due("10: the tank lost nothing", x.grade(0, 0), 20);
    }

    private static void booming() {
        JettyHoses x = new JettyHoses();
        Check.due("11: is out", x.boom(false), NOT_POSSIBLE);
        Check.due("11: is laid", x.boom(true), 0);
        Check.due("11: is laid already", x.boom(true), NOT_POSSIBLE);
        Check.due("11: count(13)", x.count(13), 1);
        x.arrive(400, 0, 0, 0);
        x.berth();
        x.connect(0, 0);
        x.reach(0, 20);
        x.pass(1);
        Check.due("11: it holds", x.count(14), 10);
        Check.due("11: not caught yet", x.count(16), 0);
        Check.due("11: taken out", x.boom(false), 10);
        Check.due("11: count(13), out", x.count(13), 0);
        Check.due("11: holds nothing", x.count(14), 0);
        Check.due("11: caught", x.count(16), 10);
        Check.due("11: nothing to the sea", x.count(15), 0);
        Check.due("11: laid anew", x.boom(true), 0);
        Check.due("11: caught as it was", x.count(16), 10);
        Check.due("11: out again", x.boom(false), 0);
    }

    private static void drawing() {
        JettyHoses x = new JettyHoses();
        x.arrive(0, 30, 0, 0);
        x.berth();
        x.boom(true);
        x.connect(0, 1);
        x.pass(3);
        Check.due("12: 30 are there", x.grade(1, 0), 30);
        Check.due("12: 31", x.draw(1, 31), NOT_POSSIBLE);
        Check.due("12: 0", x.draw(1, 0), BAD_VALUE);
        Check.due("12: -1", x.draw(1, -1), BAD_VALUE);
        Check.due("12: 1000", x.draw(1, 1000), NOT_POSSIBLE);
        Check.due("12: 1001", x.draw(1, 1001), BAD_VALUE);
        Check.due("12: no grade 4", x.draw(4, 0), NO_SUCH);
        Check.due("12: no grade -1", x.draw(-1, 1), NO_SUCH);
        Check.due("12: one", x.draw(1, 1), 29);
        Check.due("12: the rest", x.draw(1, 29), 0);
        Check.due("12: nothing", x.draw(1, 1), NOT_POSSIBLE);
        Check.due("12: nothing in another", x.draw(0, 1), NOT_POSSIBLE);
        Check.due("12: not spoilt", x.grade(1, 2), 0);
    }
}
