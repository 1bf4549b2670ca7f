/** Promises 28 to 30: undo, and saved states. */
public final class HistoryTest {
    private static final int BAD_VALUE = JettyHoses.BAD_VALUE, NOT_POSSIBLE = JettyHoses.NOT_POSSIBLE, NONE = JettyHoses.NONE;

    public static void main(String[] args) {
        undoingEachChange();
        undoingSixOfMany();
        undoingNotThePad();
        errorsAreNoChanges();
        changesWithoutADifference();
        doingAnewBehindAnUndo();
        saving();
        savingIsNoChange();
        restoring();
        restoringIsUndone();
        slotsStayBehindAnUndo();
        slotsAreWrong();
        Check.end("HistoryTest");
    }

    /** A tanker at the berth, two that wait, hose 0 connected, hose 1 burst, c was in hose 2, 10 held. */
    private static JettyHoses worked() {
        JettyHoses x = new JettyHoses();
        x.arrive(100, 100, 100, 100);
        x.arrive(20, 0, 0, 0);
        x.arrive(0, 20, 0, 0);
        x.set(JettyHoses.DEPTH, 150);
        x.set(JettyHoses.LAY, 0);
        x.berth();
        x.boom(true);
        x.connect(0, 0);
        x.connect(1, 1);
        x.connect(2, 2);
        x.pass(1);
        x.reach(1, 20);
        x.pass(1);
        x.disconnect(2);
        return x;
    }

    private static int change(JettyHoses x, int kind) {
        switch (kind) {
            case 0: return x.set(JettyHoses.PRICE, 50);
            case 1: return x.arrive(1, 2, 3, 4);
            case 2: return x.reach(3, 33);
            case 3: return x.connect(3, 3);
            case 4: return x.disconnect(0);
            case 5: return x.leave();
            case 6: return x.berth();
            case 7: return x.flush(2);
            case 8: return x.mend(1);
            case 9: return x.boom(false);
            case 10: return x.draw(2, 3);
            case 11: return x.pass(30);
            case 12: Check.write(x, ".5;+d9"); return x.run();
            case 13: return x.pass(3);
            default: return x.restore(1);
        }
    }

    private static void undoingEachChange() {
        for (int kind = 0; kind < 15; kind++) {
            JettyHoses x = worked();
            x.save(1);
            x.pass(1);
            if (kind == 5 || kind == 6) {
                x.disconnect(0);
            }
            if (kind == 6) {
                x.leave();
            }
            if (kind == 13) {
                // Hose 2, in which c was last, spoils d in the hours that are undone, and hose 0 bursts.
                x.connect(2, 3);
                x.reach(0, 20);
            }
            int[] before = Check.picture(x);
            Check.due("28: change " + kind + " is no error", Check.isError(change(x, kind)) ? 1 : 0, 0);
            Check.due("28: change " + kind + " is seen", java.util.Arrays.equals(before, Check.picture(x)) ? 1 : 0, 0);
            Check.due("28: undo() of " + kind, x.undo(), 5);
            Check.duePicture("28: change " + kind + " is undone", x, before);
        }
    }

    private static void undoingSixOfMany() {
        JettyHoses x = new JettyHoses();
        for (int i = 1; i <= 9; i++) {
            x.set(JettyHoses.PRICE, 10 + i);
            Check.due("28: changes behind " + i, x.count(19), Math.min(i, 6));
        }
        Check.due("28: an error in between", x.set(JettyHoses.PRICE, 0), BAD_VALUE);
        for (int i = 8; i >= 3; i--) {
            Check.due("28: undo() back to " + i, x.undo(), i - 3);
            Check.due("28: the price of " + i, x.count(5), 10 + i);
            Check.due("28: left", x.count(19), i - 3);
        }
        Check.due("28: none is left", x.undo(), NOT_POSSIBLE);
        Check.due("28: the price of 3 stays", x.count(5), 13);
    }

    private static void undoingNotThePad() {
        JettyHoses x = new JettyHoses();
        x.pass(1);
        Check.write(x, "0=a");
        x.undo();
        Check.due("28: the pad stays", x.count(18), 3);
        Check.due("28: and what it reads", x.fault(), NONE);
        Check.due("28: hour 0", x.count(6), 0);
    }

    private static void errorsAreNoChanges() {
        JettyHoses x = worked();
        int[] before = Check.picture(x);
        x.undo();
        int changes = x.count(19);
        int[] undone = Check.picture(x);
        x.set(0, 1);
        x.arrive(0, 0, 0, 0);
        x.berth();
        x.leave();
        x.reach(0, 121);
        x.connect(0, 0);
        x.disconnect(3);
        x.flush(0);
        x.mend(0);
        x.boom(true);
        x.draw(0, 1000);
        x.pass(49);
        x.run();
        x.restore(0);
        x.restore(2);
        Check.due("28: as many changes as before", x.count(19), changes);
        Check.duePicture("28: errors change nothing", x, undone);
        x.disconnect(2);
        Check.duePicture("28: done again", x, before);
    }

    private static void changesWithoutADifference() {
        JettyHoses x = new JettyHoses();
        Check.due("28: the same price", x.set(JettyHoses.PRICE, 5), 5);
        Check.due("28: the same reach", x.reach(0, 90), 90);
        Check.due("28: both count", x.count(19), 2);
        Check.due("28: undo()", x.undo(), 1);
        Check.due("28: undo(), too", x.undo(), 0);
    }

    private static void doingAnewBehindAnUndo() {
        JettyHoses x = new JettyHoses();
        x.pass(1);
        x.pass(2);
        x.pass(4);
        x.undo();
        x.undo();
        x.pass(8);
        Check.due("28: hour 9", x.count(6), 9);
        Check.due("28: back to 1", x.undo(), 1);
        Check.due("28: hour 1", x.count(6), 1);
        Check.due("28: back to 0", x.undo(), 0);
        Check.due("28: hour 0", x.count(6), 0);
    }

    private static void saving() {
        JettyHoses x = worked();
        int[] saved = Check.picture(x);
        Check.due("29: the hour", x.save(0), 2);
        x.pass(5);
        Check.due("29: another hour", x.save(1), 7);
        int[] later = Check.picture(x);
        x.disconnect(0);
        x.leave();
        Check.due("30: the first", x.restore(0), 2);
        Check.duePicture("30: the first", x, saved);
        Check.due("30: the second", x.restore(1), 7);
        Check.duePicture("30: the second", x, later);
        Check.due("30: the slot keeps it", x.restore(0), 2);
        Check.duePicture("30: the slot keeps it", x, saved);
        x.pass(1);
        Check.due("29: over what was there", x.save(0), 3);
        x.pass(1);
        Check.due("30: what was saved last", x.restore(0), 3);
    }

    private static void savingIsNoChange() {
        JettyHoses x = new JettyHoses();
        x.pass(3);
        Check.write(x, ".1");
        Check.due("29: the hour", x.save(0), 3);
        Check.due("29: no change", x.count(19), 1);
        x.wipe();
        Check.write(x, "0=a;1");
        x.pass(1);
        Check.due("30: the hour", x.restore(0), 3);
        Check.due("30: not the pad", x.count(18), 5);
        Check.due("30: not the history", x.count(19), 3);
    }

    private static void restoring() {
        JettyHoses x = new JettyHoses();
        x.set(JettyHoses.AMPLITUDE, 11);
        x.save(1);
        x.set(JettyHoses.AMPLITUDE, 22);
        Check.due("30: nothing in the other", x.restore(0), NOT_POSSIBLE);
        Check.due("30: hour 0", x.restore(1), 0);
        Check.due("30: the setting", x.count(1), 11);
        x.pass(1);
        Check.due("30: what comes does not reach the slot", x.restore(1), 0);
        Check.due("30: hour 0 again", x.count(6), 0);
    }

    private static void restoringIsUndone() {
        JettyHoses x = new JettyHoses();
        x.save(0);
        x.pass(5);
        x.restore(0);
        Check.due("30: a change", x.count(19), 2);
        Check.due("30: undo()", x.undo(), 1);
        Check.due("30: hour 5", x.count(6), 5);
        Check.due("30: again", x.restore(0), 0);
    }

    private static void slotsStayBehindAnUndo() {
        JettyHoses x = new JettyHoses();
        x.pass(5);
        x.save(0);
        x.undo();
        Check.due("28: not the slots", x.restore(0), 5);
        Check.due("30: hour 5", x.count(6), 5);
    }

    private static void slotsAreWrong() {
        JettyHoses x = new JettyHoses();
        int[] bad = {-1, 2, Integer.MIN_VALUE, Integer.MAX_VALUE};
        for (int i = 0; i < bad.length; i++) {
            Check.due("29: save(" + bad[i] + ")", x.save(bad[i]), BAD_VALUE);
            Check.due("30: restore(" + bad[i] + ")", x.restore(bad[i]), BAD_VALUE);
        }
        Check.due("30: no change", x.count(19), 0);
    }
}
