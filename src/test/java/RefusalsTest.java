/**
 * "A method that fails returns one of the error codes; it names its errors in the order in which they are checked, and the
 * first one that applies is returned. A call that returns an error changes nothing."
 *
 * <p>Each error that a promise names, at both of its edges and far off, in a state in which the call would else be done or
 * in which a later error applies, too. The object is held against a twin that was not asked.
 */
public final class RefusalsTest {
    private static final int NO_SUCH = JettyHoses.NO_SUCH, BAD_VALUE = JettyHoses.BAD_VALUE, BAD_TEXT = JettyHoses.BAD_TEXT;
    private static final int TOO_MANY = JettyHoses.TOO_MANY, NOT_POSSIBLE = JettyHoses.NOT_POSSIBLE;
    private static final int LEAST = Integer.MIN_VALUE, MOST = Integer.MAX_VALUE;
    private static final int[] NOT_OF_FOUR = {-1, 4, LEAST, MOST, JettyHoses.NONE};
    private static final String SIXTY = "+a100b200c300d400;.48;.12;0=a;1=b;2=c;3=d;0-;1-;2-;3-;0~;1=a";

    private interface Call {
        int on(JettyHoses x);
    }

    private interface State {
        JettyHoses made();
    }

    public static void main(String[] args) {
        set();
        arrive();
        berth();
        leave();
        reach();
        connect();
        disconnect();
        flush();
        mend();
        boom();
        draw();
        pass();
        run();
        tanker();
        hose();
        grade();
        countAndTide();
        whatIfs();
        put();
        undo();
        slots();
        Check.end("RefusalsTest");
    }

    private static void refused(String call, State state, Call made, int error) {
        JettyHoses x = state.made();
        Check.due(call, made.on(x), error);
        Check.dueTwins(call + " was refused", x, state.made());
    }

    // ---- states

    private static JettyHoses fresh() {
        return new JettyHoses();
    }

    /**
     * Hour 2; 370 units at the berth, two tankers wait; hose 0 is connected by a, hose 1 burst with b in it, c was in hose 2,
     * and hose 3 was not used; the boom holds 10; slot 0 is saved, slot 1 not; the pad has two orders.
     */
    private static JettyHoses busy() {
        JettyHoses x = new JettyHoses();
        x.arrive(100, 100, 100, 100);
        x.arrive(20, 0, 0, 0);
        x.arrive(0, 20, 0, 0);
        x.set(JettyHoses.DEPTH, 150);
        x.set(JettyHoses.LAY, 0);
        x.berth();
        x.boom(true);
        x.connect(0, 0);
        x.connect(1, 1);
        x.connect(2, 2);
        x.pass(1);
        x.reach(1, 20);
        x.save(0);
        x.pass(1);
        x.disconnect(2);
        Check.write(x, ".3;3=c");
        return x;
    }

    /** As busy(), but no hose is connected. */
    private static JettyHoses loose() {
        JettyHoses x = busy();
        x.disconnect(0);
        return x;
    }

    /** As loose(), but the tanker lies on the ground. */
    private static JettyHoses aground() {
        JettyHoses x = loose();
        x.set(JettyHoses.DEPTH, 50);
        x.set(JettyHoses.KEEL, 20);
        return x;
    }

    /** Tankers wait, and none lies at the berth; the first one would not float. */
    private static JettyHoses shallow() {
        JettyHoses x = new JettyHoses();
        x.arrive(400, 0, 0, 0);
        x.arrive(1, 0, 0, 0);
        x.set(JettyHoses.DEPTH, 64);
        return x;
    }

    /** One lies at the berth, five wait; the hour is 9999; the pad has 60 characters. */
    private static JettyHoses full() {
        JettyHoses x = new JettyHoses();
        x.arrive(1, 2, 3, 4);
        x.berth();
        for (int i = 0; i < 5; i++) {
            x.arrive(10, 0, 0, i);
        }
        for (int i = 0; i < 208; i++) {
            x.pass(48);
        }
        x.pass(15);
        Check.write(x, SIXTY);
        return x;
    }

    private static State padded(String text) {
        return () -> {
            JettyHoses x = busy();
            x.wipe();
            Check.write(x, text);
            return x;
        };
    }

    // ---- changes

    private static void set() {
        int[] none = {-1, 6, LEAST, MOST};
        for (int setting : none) {
            refused("2: no such setting " + setting, RefusalsTest::busy, x -> x.set(setting, 50), BAD_VALUE);
        }
        int[] least = {50, 0, 0, 1, 0, 1};
        int[] most = {150, 40, 20, 40, 99, 99};
        for (int i = 0; i < 6; i++) {
            int setting = i;
            int[] bad = {least[i] - 1, most[i] + 1, LEAST, MOST};
            for (int value : bad) {
                refused("2: set(" + i + ", " + value + ")", RefusalsTest::busy, x -> x.set(setting, value), BAD_VALUE);
            }
        }
    }

    private static void arrive() {
        int[] bad = {-1, 401, LEAST, MOST};
        State[] states = {RefusalsTest::busy, RefusalsTest::full};
        for (State state : states) {
            for (int units : bad) {
                refused("3: a is " + units, state, x -> x.arrive(units, 1, 1, 1), BAD_VALUE);
                refused("3: b is " + units, state, x -> x.arrive(1, units, 1, 1), BAD_VALUE);
                refused("3: c is " + units, state, x -> x.arrive(1, 1, units, 1), BAD_VALUE);
                refused("3: d is " + units, state, x -> x.arrive(1, 1, 1, units), BAD_VALUE);
            }
            refused("3: all are 0", state, x -> x.arrive(0, 0, 0, 0), BAD_VALUE);
            refused("3: together 0", state, x -> x.arrive(-1, 1, 0, 0), BAD_VALUE);
            refused("3: together 0 by a wrap", state, x -> x.arrive(1 << 30, 1 << 30, 1 << 30, 1 << 30), BAD_VALUE);
            refused("3: together 2 by a wrap", state, x -> x.arrive(MOST, MOST, 4, 0), BAD_VALUE);
        }
        refused("3: 5 wait", RefusalsTest::full, x -> x.arrive(1, 1, 1, 1), TOO_MANY);
        refused("3: 5 wait, of one unit", RefusalsTest::full, x -> x.arrive(0, 0, 0, 1), TOO_MANY);
    }

    private static void berth() {
        refused("4: none waits", RefusalsTest::fresh, JettyHoses::berth, NOT_POSSIBLE);
        refused("4: one lies at the berth", RefusalsTest::busy, JettyHoses::berth, NOT_POSSIBLE);
        refused("4: it would not float", RefusalsTest::shallow, JettyHoses::berth, NOT_POSSIBLE);
    }

    private static void leave() {
        refused("5: there is none", RefusalsTest::fresh, JettyHoses::leave, NOT_POSSIBLE);
        refused("5: those that wait are not there", RefusalsTest::shallow, JettyHoses::leave, NOT_POSSIBLE);
        refused("5: it does not float", RefusalsTest::aground, JettyHoses::leave, NOT_POSSIBLE);
        refused("5: a hose is connected", RefusalsTest::busy, JettyHoses::leave, NOT_POSSIBLE);
        refused("5: the last hose alone is", () -> {
            JettyHoses x = loose();
            x.connect(3, 3);
            return x;
        }, JettyHoses::leave, NOT_POSSIBLE);
    }

    private static void reach() {
        int[] bad = {19, 121, LEAST, MOST};
        for (int none : NOT_OF_FOUR) {
            refused("6: reach(" + none + ", 50)", RefusalsTest::busy, x -> x.reach(none, 50), NO_SUCH);
            refused("6: reach(" + none + ", 19)", RefusalsTest::busy, x -> x.reach(none, 19), NO_SUCH);
        }
        for (int reach : bad) {
            refused("6: reach(3, " + reach + ")", RefusalsTest::busy, x -> x.reach(3, reach), BAD_VALUE);
        }
    }

    private static void connect() {
        for (int none : NOT_OF_FOUR) {
            refused("7: connect(" + none + ", 0)", RefusalsTest::busy, x -> x.connect(none, 0), NO_SUCH);
            refused("7: connect(3, " + none + ")", RefusalsTest::busy, x -> x.connect(3, none), NO_SUCH);
            refused("7: no such grade, also if connected", RefusalsTest::busy, x -> x.connect(0, none), NO_SUCH);
            refused("7: no such hose, also without a tanker", RefusalsTest::fresh, x -> x.connect(none, 0), NO_SUCH);
            refused("7: no such grade, also without a tanker", RefusalsTest::fresh, x -> x.connect(0, none), NO_SUCH);
        }
        refused("7: no tanker lies at the berth", RefusalsTest::fresh, x -> x.connect(0, 0), NOT_POSSIBLE);
        refused("7: they wait", RefusalsTest::shallow, x -> x.connect(0, 0), NOT_POSSIBLE);
        refused("7: the hose is burst", RefusalsTest::busy, x -> x.connect(1, 1), NOT_POSSIBLE);
        refused("7: it is connected", RefusalsTest::busy, x -> x.connect(0, 0), NOT_POSSIBLE);
        refused("7: it is connected by another", RefusalsTest::busy, x -> x.connect(0, 3), NOT_POSSIBLE);
        refused("7: the height is above its reach", () -> {
            JettyHoses x = busy();
            // 350 units: a draught of 57; the tide is 18.
            x.reach(3, 60);
            return x;
        }, x -> x.connect(3, 3), NOT_POSSIBLE);
    }

    private static void disconnect() {
        for (int none : NOT_OF_FOUR) {
            refused("8: disconnect(" + none + ")", RefusalsTest::busy, x -> x.disconnect(none), NO_SUCH);
        }
        refused("8: it is burst", RefusalsTest::busy, x -> x.disconnect(1), NOT_POSSIBLE);
        refused("8: it is not connected any more", RefusalsTest::busy, x -> x.disconnect(2), NOT_POSSIBLE);
        refused("8: it was not connected", RefusalsTest::busy, x -> x.disconnect(3), NOT_POSSIBLE);
    }

    private static void flush() {
        for (int none : NOT_OF_FOUR) {
            refused("9: flush(" + none + ")", RefusalsTest::busy, x -> x.flush(none), NO_SUCH);
        }
        refused("9: it is connected", RefusalsTest::busy, x -> x.flush(0), NOT_POSSIBLE);
        refused("9: no grade was in it", RefusalsTest::busy, x -> x.flush(3), NOT_POSSIBLE);
        refused("9: it is connected, and no grade was in it", () -> {
            JettyHoses x = busy();
            x.connect(3, 3);
            return x;
        }, x -> x.flush(3), NOT_POSSIBLE);
    }

    private static void mend() {
        for (int none : NOT_OF_FOUR) {
            refused("10: mend(" + none + ")", RefusalsTest::busy, x -> x.mend(none), NO_SUCH);
        }
        refused("10: it is connected", RefusalsTest::busy, x -> x.mend(0), NOT_POSSIBLE);
        refused("10: a grade was in it", RefusalsTest::busy, x -> x.mend(2), NOT_POSSIBLE);
        refused("10: it was not used", RefusalsTest::busy, x -> x.mend(3), NOT_POSSIBLE);
    }

    private static void boom() {
        refused("11: it is out at first", RefusalsTest::fresh, x -> x.boom(false), NOT_POSSIBLE);
        refused("11: it is laid, and holds", RefusalsTest::busy, x -> x.boom(true), NOT_POSSIBLE);
        refused("11: it is torn, and so out", () -> {
            JettyHoses x = loose();
            x.set(JettyHoses.AMPLITUDE, 40);
            x.pass(3);
            return x;
        }, x -> x.boom(false), NOT_POSSIBLE);
    }

    private static void draw() {
        int[] bad = {0, -1, 1001, LEAST, MOST};
        for (int none : NOT_OF_FOUR) {
            refused("12: draw(" + none + ", 1)", RefusalsTest::busy, x -> x.draw(none, 1), NO_SUCH);
            refused("12: draw(" + none + ", 0)", RefusalsTest::busy, x -> x.draw(none, 0), NO_SUCH);
        }
        for (int units : bad) {
            refused("12: draw(0, " + units + ")", RefusalsTest::busy, x -> x.draw(0, units), BAD_VALUE);
            refused("12: draw(3, " + units + "), of an empty tank", RefusalsTest::busy, x -> x.draw(3, units), BAD_VALUE);
        }
        refused("12: 21 of 20", RefusalsTest::busy, x -> x.draw(0, 21), NOT_POSSIBLE);
        refused("12: 1000 of 20", RefusalsTest::busy, x -> x.draw(0, 1000), NOT_POSSIBLE);
        refused("12: 1 of 0", RefusalsTest::busy, x -> x.draw(3, 1), NOT_POSSIBLE);
    }

    private static void pass() {
        int[] bad = {0, -1, 49, LEAST, MOST};
        for (int hours : bad) {
            refused("13: pass(" + hours + ")", RefusalsTest::busy, x -> x.pass(hours), BAD_VALUE);
            refused("13: pass(" + hours + ") at hour 9999", RefusalsTest::full, x -> x.pass(hours), BAD_VALUE);
        }
        refused("13: hour 10000", RefusalsTest::full, x -> x.pass(1), TOO_MANY);
        refused("13: hour 10047", RefusalsTest::full, x -> x.pass(48), TOO_MANY);
    }

    private static void run() {
        String[] bad = {"", "0", "0=", "0=a;", ".1;.2;", ".1;.2;x", ".1;+a401", ".1;+a", "4-", ".1;.49", "+d1;+b1a1"};
        for (String text : bad) {
            refused("14: the pad has a fault: " + text, padded(text), JettyHoses::run, BAD_TEXT);
        }
    }

    // ---- looks

    private static void tanker() {
        int[] bad = {-1, 8, LEAST, MOST};
        int[] none = {-1, 3, 6, LEAST, MOST};
        for (int what : bad) {
            refused("15: tanker(0, " + what + ")", RefusalsTest::busy, x -> x.tanker(0, what), BAD_VALUE);
            refused("15: tanker(3, " + what + ")", RefusalsTest::busy, x -> x.tanker(3, what), BAD_VALUE);
            refused("15: tanker(-1, " + what + ")", RefusalsTest::fresh, x -> x.tanker(-1, what), BAD_VALUE);
        }
        for (int place : none) {
            refused("15: tanker(" + place + ", 0)", RefusalsTest::busy, x -> x.tanker(place, 0), NO_SUCH);
            refused("15: tanker(" + place + ", 7)", RefusalsTest::busy, x -> x.tanker(place, 7), NO_SUCH);
        }
        refused("15: none at the berth", RefusalsTest::shallow, x -> x.tanker(0, 0), NO_SUCH);
        refused("15: a place behind the last", RefusalsTest::full, x -> x.tanker(6, 0), NO_SUCH);
    }

    private static void hose() {
        int[] bad = {-1, 6, LEAST, MOST};
        for (int what : bad) {
            refused("16: hose(0, " + what + ")", RefusalsTest::busy, x -> x.hose(0, what), BAD_VALUE);
            refused("16: hose(3, " + what + ")", RefusalsTest::busy, x -> x.hose(3, what), BAD_VALUE);
        }
        for (int none : NOT_OF_FOUR) {
            refused("16: hose(" + none + ", 0)", RefusalsTest::busy, x -> x.hose(none, 0), NO_SUCH);
            refused("16: hose(" + none + ", 6)", RefusalsTest::busy, x -> x.hose(none, 6), NO_SUCH);
        }
    }

    private static void grade() {
        int[] bad = {-1, 4, LEAST, MOST};
        for (int what : bad) {
            refused("17: grade(0, " + what + ")", RefusalsTest::busy, x -> x.grade(0, what), BAD_VALUE);
            refused("17: grade(3, " + what + ")", RefusalsTest::busy, x -> x.grade(3, what), BAD_VALUE);
        }
        for (int none : NOT_OF_FOUR) {
            refused("17: grade(" + none + ", 0)", RefusalsTest::busy, x -> x.grade(none, 0), NO_SUCH);
            refused("17: grade(" + none + ", 4)", RefusalsTest::busy, x -> x.grade(none, 4), NO_SUCH);
        }
    }

    private static void countAndTide() {
        int[] bad = {-1, 20, LEAST, MOST};
        for (int what : bad) {
            refused("18: count(" + what + ")", RefusalsTest::busy, x -> x.count(what), BAD_VALUE);
        }
        refused("19: tide(-1)", RefusalsTest::busy, x -> x.tide(-1), BAD_VALUE);
        refused("19: tide(-12)", RefusalsTest::busy, x -> x.tide(-12), BAD_VALUE);
        refused("19: tide(least)", RefusalsTest::busy, x -> x.tide(LEAST), BAD_VALUE);
    }

    // ---- what if

    private static void whatIfs() {
        refused("20: none waits", RefusalsTest::fresh, JettyHoses::untilFloats, NOT_POSSIBLE);
        refused("22: there is none", RefusalsTest::fresh, JettyHoses::untilEmpty, NOT_POSSIBLE);
        refused("22: they wait", RefusalsTest::shallow, JettyHoses::untilEmpty, NOT_POSSIBLE);
        for (int none : NOT_OF_FOUR) {
            refused("21: safeFor(" + none + ")", RefusalsTest::busy, x -> x.safeFor(none), NO_SUCH);
            refused("24: leastReach(" + none + ")", RefusalsTest::busy, x -> x.leastReach(none), NO_SUCH);
        }
        for (int i = 1; i < 4; i++) {
            // Burst, used before, and not used.
            int hose = i;
            refused("21: " + i + " is not connected", RefusalsTest::busy, x -> x.safeFor(hose), NOT_POSSIBLE);
            refused("24: " + i + " is not connected", RefusalsTest::busy, x -> x.leastReach(hose), NOT_POSSIBLE);
        }
        int[] badHours = {0, -1, 201, LEAST, MOST};
        for (int hours : badHours) {
            refused("23: ifPassed(" + hours + ", 0)", RefusalsTest::busy, x -> x.ifPassed(hours, 0), BAD_VALUE);
            refused("23: ifPassed(" + hours + ", 3)", RefusalsTest::busy, x -> x.ifPassed(hours, 3), BAD_VALUE);
        }
        int[] badWhat = {-1, 4, LEAST, MOST};
        for (int what : badWhat) {
            refused("23: ifPassed(1, " + what + ")", RefusalsTest::busy, x -> x.ifPassed(1, what), BAD_VALUE);
            refused("23: ifPassed(200, " + what + ")", RefusalsTest::busy, x -> x.ifPassed(200, what), BAD_VALUE);
        }
    }

    // ---- texts, undo, saving

    private static void put() {
        refused("25: no character", RefusalsTest::busy, x -> x.put(0), BAD_VALUE);
        refused("25: no character, and no room", RefusalsTest::full, x -> x.put(0), BAD_VALUE);
        for (int at = 0; at < 8; at++) {
            long rest = 0x6161616161616161L >>> 8 * (7 - at) & ~(255L << 8 * at);
            int shift = 8 * at;
            int[] codes = {1, 32, 127, 128, 255};
            for (int code : codes) {
                long characters = rest | (long) code << shift;
                refused("25: the code " + code + " at " + at, RefusalsTest::busy, x -> x.put(characters), BAD_VALUE);
                refused("25: the code " + code + " at " + at + ", and no room", RefusalsTest::full, x -> x.put(characters), BAD_VALUE);
            }
        }
        for (int zero = 0; zero < 7; zero++) {
            long below = zero == 0 ? 0 : 0x61616161616161L >>> 8 * (7 - zero);
            for (int bit = 8 * zero + 8; bit < 64; bit++) {
                long characters = below | 1L << bit;
                refused("25: the bit " + bit + " above a 0 at " + zero, RefusalsTest::busy, x -> x.put(characters), BAD_VALUE);
            }
        }
        refused("25: 61", RefusalsTest::full, x -> x.put('a'), TOO_MANY);
        refused("25: 68", RefusalsTest::full, x -> x.put(Check.packed("aaaaaaaa")), TOO_MANY);
        refused("25: 61 by two", padded(SIXTY.substring(0, 59)), x -> x.put(Check.packed("~;")), TOO_MANY);
        refused("25: 61 by eight", padded(SIXTY.substring(0, 53)), x -> x.put(Check.packed("0~;1~;2~")), TOO_MANY);
    }

    private static void undo() {
        refused("28: there is none", RefusalsTest::fresh, JettyHoses::undo, NOT_POSSIBLE);
        refused("28: there is none any more", () -> {
            JettyHoses x = busy();
            for (int i = 0; i < 6; i++) {
                x.undo();
            }
            return x;
        }, JettyHoses::undo, NOT_POSSIBLE);
    }

    private static void slots() {
        int[] none = {-1, 2, LEAST, MOST};
        for (int slot : none) {
            refused("29: save(" + slot + ")", RefusalsTest::busy, x -> x.save(slot), BAD_VALUE);
            refused("30: restore(" + slot + ")", RefusalsTest::busy, x -> x.restore(slot), BAD_VALUE);
        }
        refused("30: nothing was saved in it", RefusalsTest::busy, x -> x.restore(1), NOT_POSSIBLE);
        refused("30: nothing was saved in either", RefusalsTest::fresh, x -> x.restore(0), NOT_POSSIBLE);
    }
}
