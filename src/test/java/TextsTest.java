/** Promises 14 and 25 to 27: the pad, its fault, and its orders. */
public final class TextsTest {
    private static final int BAD_VALUE = JettyHoses.BAD_VALUE, BAD_TEXT = JettyHoses.BAD_TEXT, TOO_MANY = JettyHoses.TOO_MANY;
    private static final int NOT_POSSIBLE = JettyHoses.NOT_POSSIBLE, NONE = JettyHoses.NONE, NO_SUCH = JettyHoses.NO_SUCH;

    public static void main(String[] args) {
        putting();
        puttingWrongly();
        puttingTooMany();
        wiping();
        texts();
        faults();
        faultsOfEachPrefix();
        running();
        runningWhatIsNotPossible();
        runningAFault();
        runningIsOneChange();
        Check.end("TextsTest");
    }

    private static int faultOf(String text) {
        JettyHoses x = new JettyHoses();
        if (!text.isEmpty()) {
            Check.due("25: put " + text, Check.write(x, text), text.length());
        }
        return x.fault();
    }

    private static void putting() {
        JettyHoses x = new JettyHoses();
        Check.due("25: one", x.put('0'), 1);
        Check.due("25: the last is the lowest", x.put('=' << 8 | 'a'), 3);
        Check.due("25: it reads 0=a", x.fault(), NONE);
        Check.due("25: eight", x.put(Check.packed(";1=b;2=c")), 11);
        Check.due("25: it reads on", x.fault(), NONE);
        Check.due("25: count(18)", x.count(18), 11);
        Check.due("25: the least code", x.put(33), 12);
        Check.due("25: the greatest code", x.put(126), 13);
        Check.due("25: eight of the greatest", x.put(0x7e7e7e7e7e7e7e7eL), 21);
        Check.due("25: that is no change", x.count(19), 0);
    }

    private static void puttingWrongly() {
        JettyHoses x = new JettyHoses();
        x.put('.');
        long[] bad = {
            0, 32, 127, 128, 255, -1, Long.MIN_VALUE, Long.MAX_VALUE,
            'a' << 8, 0x610061L, 0x6100000000000061L, 0x0100000000000061L, 0x6161616161616100L,
            0x2061L, 0x6120L, 0x7f61L, 0x617fL, 0x8061616161616161L, 0xff61616161616161L, 0x2061616161616161L, 0x0161616161616161L,
        };
        for (int i = 0; i < bad.length; i++) {
            Check.due("25: put(" + Long.toHexString(bad[i]) + ")", x.put(bad[i]), BAD_VALUE);
        }
        Check.due("25: nothing was appended", x.count(18), 1);
    }

    private static void puttingTooMany() {
        JettyHoses x = new JettyHoses();
        for (int i = 0; i < 7; i++) {
            x.put(Check.packed("aaaaaaaa"));
        }
        Check.due("25: 61", x.put(Check.packed("aaaaa")), TOO_MANY);
        Check.due("25: still 56", x.count(18), 56);
        Check.due("25: 60", x.put(Check.packed("aaaa")), 60);
        Check.due("25: 61 by one", x.put('a'), TOO_MANY);
        Check.due("25: a value is refused first", x.put(32), BAD_VALUE);
        Check.due("26: wipe()", x.wipe(), 60);
        Check.due("25: again", x.put('.'), 1);
    }

    private static void wiping() {
        JettyHoses x = new JettyHoses();
        Check.due("26: nothing there", x.wipe(), 0);
        x.put(Check.packed("0=a"));
        Check.due("26: three", x.wipe(), 3);
        Check.due("26: none any more", x.wipe(), 0);
        Check.due("26: count(18)", x.count(18), 0);
        Check.due("26: that is no change", x.count(19), 0);
        x.put(Check.packed(".5"));
        Check.due("26: what was there is gone", x.fault(), NONE);
        Check.due("26: two", x.count(18), 2);
    }

    private static void texts() {
        String[] good = {
            "+a1", "+a400", "+d1", "+a1b2c3d4", "+a10b20c30d40", "+b399d1", "+a9;+a9",
            "0=a", "3=d", "0-", "3-", "0~", "3~", ".1", ".48", ".9", ".10", ".39",
            "0=a;1=b;2-;3~;.5;+c7", "+a100b200c300d400;.48;.1;0=a;1=b;2=c;3=d;0-;1-;2-;3-;0~;1~;2",
        };
        for (int i = 0; i < good.length - 1; i++) {
            Check.due("27: " + good[i], faultOf(good[i]), NONE);
        }
        Check.due("27: 60 characters", faultOf("+a100b200c300d400;.48;.1;0=a;1=b;2=c;3=d;0-;1-;2-;3-;0~;1~"), NONE);
    }

    private static void faults() {
        String[] bad = {
            "", "x", ";", "4", "a", "=", "-", "0", "0x", "0;", "00", "0=", "0=e", "0=A", "0=0", "0=;", "0=ab", "0-a", "0--", "0~~", "0=a;", "0=a;;",
            "0=a;x", "0=a,", "+", "+e1", "+1", "+;", "+a", "+a0", "+a01", "+ab", "+a;", "+a401", "+a410", "+a4000", "+a500", "+a1000", "+a999", "+a1a1",
            "+b1a1", "+a1b", "+a1b0", "+a1b2a3", "+c1d2e3", "+d4d", "+a1b401", ".", ".0", ".01", ".49", ".50", ".480", ".99", ".100", ".a", ".;",
            ".-1", ".4;.", ".4;.4;", "1=a2=b", "+a40=b", "0=a;+a4;.48;3~;2-;9",
        };
        int[] at = {
            0, 0, 0, 0, 0, 0, 0, 1, 1, 1, 1, 2, 2, 2, 2, 2, 3, 2, 2, 2, 4, 4,
            4, 3, 1, 1, 1, 1, 2, 2, 2, 2, 2, 4, 4, 5, 4, 5, 4, 3,
            3, 4, 4, 5, 5, 3, 6, 1, 1, 1, 2, 2, 3, 2, 3, 1, 1,
            1, 4, 6, 3, 4, 18,
        };
        Check.due("27: as many faults as texts", at.length, bad.length);
        for (int i = 0; i < bad.length; i++) {
            Check.due("27: " + bad[i], faultOf(bad[i]), at[i]);
        }
    }

    /** A text that is cut off has no fault where an order may end, else its length. */
    private static void faultsOfEachPrefix() {
        String text = "+a12c400;0=d;1-;2~;.48;.5";
        boolean[] ends = new boolean[text.length() + 1];
        int[] wholes = {3, 4, 6, 7, 8, 12, 15, 18, 21, 22, 25};
        for (int i = 0; i < wholes.length; i++) {
            ends[wholes[i]] = true;
        }
        for (int length = 0; length <= text.length(); length++) {
            String part = text.substring(0, length);
            Check.due("27: " + part, faultOf(part), ends[length] ? NONE : length);
        }
    }

    private static void running() {
        JettyHoses x = new JettyHoses();
        x.boom(true);
        x.arrive(1, 0, 0, 0);
        Check.write(x, "+b20d5;.2");
        Check.due("14: two orders", x.run(), 2);
        Check.due("14: the pad is empty", x.count(18), 0);
        Check.due("14: hour 2", x.count(6), 2);
        Check.due("14: a", x.tanker(2, 0), 0);
        Check.due("14: b", x.tanker(2, 1), 20);
        Check.due("14: c", x.tanker(2, 2), 0);
        Check.due("14: d", x.tanker(2, 3), 5);
        Check.due("14: it came ahead of the hours", x.tanker(2, 7), 2);
        x.berth();
        x.leave();
        x.berth();
        Check.write(x, "2=b;0=d;.1;2-;2~;0-;2=d");
        Check.due("14: seven orders", x.run(), 7);
        Check.due("14: b came into the tank, and was flushed", x.grade(1, 0), 5);
        Check.due("14: d came into the tank", x.grade(3, 0), 5);
        Check.due("14: connected by d", x.hose(2, 2), 3);
        Check.due("14: disconnected", x.hose(0, 2), NONE);
        Check.due("14: flushed", x.hose(2, 1), NONE);
        Check.due("14: not flushed", x.hose(0, 1), 3);
        Check.write(x, "+a1b2c3d4");
        x.run();
        for (int i = 0; i < 4; i++) {
            Check.due("14: all grades, " + i, x.tanker(1, i), i + 1);
        }
        Check.write(x, "+c9");
        x.run();
        Check.due("14: those that are not told are 0", x.tanker(2, 0) + x.tanker(2, 1) + x.tanker(2, 3), 0);
        Check.due("14: the one that is", x.tanker(2, 2), 9);
        Check.write(x, ".48;.12");
        x.run();
        Check.due("14: hour 63", x.count(6), 63);
    }

    private static void runningWhatIsNotPossible() {
        JettyHoses x = new JettyHoses();
        Check.write(x, "0=a;0-;0~;+a1;+a2;+a3;+a4;+a5;+a6;.1;0=a");
        Check.due("14: six of eleven", x.run(), 6);
        Check.due("14: five wait", x.count(9), 5);
        Check.due("14: no sixth", x.tanker(5, 0), 5);
        Check.due("14: an hour", x.count(6), 1);
        Check.due("14: no hose is connected", x.count(11), 0);
        Check.write(x, "0=a;1-");
        Check.due("14: none", x.run(), 0);
        Check.due("14: the pad is empty", x.count(18), 0);
        Check.due("14: a change, too", x.count(19), 2);
        for (int i = 0; i < 208; i++) {
            x.pass(48);
        }
        Check.write(x, ".48;.14;.1");
        Check.due("14: not beyond the last hour", x.run(), 1);
        Check.due("14: hour 9999", x.count(6), 9999);
    }

    private static void runningAFault() {
        JettyHoses x = new JettyHoses();
        Check.due("14: an empty pad", x.run(), BAD_TEXT);
        Check.write(x, ".1;.2;.3;");
        Check.due("14: ends too early", x.run(), BAD_TEXT);
        Check.due("14: the pad is as it was", x.count(18), 9);
        Check.due("14: no hour", x.count(6), 0);
        Check.due("14: no change", x.count(19), 0);
        x.put('.');
        x.put('4');
        Check.due("14: no fault any more", x.run(), 4);
        Check.due("14: hour 10", x.count(6), 10);
        Check.due("14: none to do again", x.run(), BAD_TEXT);
    }

    private static void runningIsOneChange() {
        JettyHoses x = new JettyHoses();
        x.set(JettyHoses.LAY, 0);
        Check.write(x, "+a1;+b2;.3;.4");
        x.run();
        Check.due("14: one more change", x.count(19), 2);
        Check.due("28: undone", x.undo(), 1);
        Check.due("28: hour 0", x.count(6), 0);
        Check.due("28: none waits", x.tanker(1, 0), NO_SUCH);
        Check.due("28: not the pad", x.count(18), 0);
        Check.due("28: the setting is as it was", x.count(4), 0);
        Check.due("28: that, too", x.undo(), 0);
        Check.due("28: the first setting", x.count(4), 24);
        Check.due("28: no more", x.undo(), NOT_POSSIBLE);
    }
}
