/** Promises 14 and 25 to 27: the pad, its fault, and its orders. */
public final class TextsTest {
    private static final int BAD_VALUE = JettyHoses.BAD_VALUE, BAD_TEXT = JettyHoses.BAD_TEXT, TOO_MANY = JettyHoses.TOO_MANY;
    private static final int NOT_POSSIBLE = JettyHoses.NOT_POSSIBLE, NONE = JettyHoses.NONE, NO_SUCH = JettyHoses.NO_SUCH;

    private static final String SIXTY = "+a100b200c300d400;.48;.12;0=a;1=b;2=c;3=d;0-;1-;2-;3-;0~;1=a";

    public static void main(String[] args) {
        putting();
        puttingOneToEight();
        puttingToTheBrim();
        puttingWrongly();
        puttingTooMany();
        wiping();
        wipingAFullPad();
        wipedCharactersAreGone();
        texts();
        faults();
        faultsOfEachPrefix();
        faultsOfEachCharacter();
        faultsOfAFullPad();
        faultsChangeNothing();
        running();
        runningAFullPad();
        runningWhatIsNotPossible();
        runningAFault();
        runningIsOneChange();
        Check.end("TextsTest");
    }

    private static int faultOf(String text) {
        JettyHoses x = new JettyHoses();
        if (!text.isEmpty()) {
            Check.due("25: put " + text, Check.write(x, text), text.length());
        }
        return x.fault();
    }

    private static void putting() {
        JettyHoses x = new JettyHoses();
        Check.due("25: one", x.put('0'), 1);
        Check.due("25: the last is the lowest", x.put('=' << 8 | 'a'), 3);
        Check.due("25: it reads 0=a", x.fault(), NONE);
        Check.due("25: eight", x.put(Check.packed(";1=b;2=c")), 11);
        Check.due("25: it reads on", x.fault(), NONE);
        Check.due("25: count(18)", x.count(18), 11);
        Check.due("25: the least code", x.put(33), 12);
        Check.due("25: the greatest code", x.put(126), 13);
        Check.due("25: eight of the greatest", x.put(0x7e7e7e7e7e7e7e7eL), 21);
        Check.due("25: that is no change", x.count(19), 0);
    }

    /** "1 to 8 characters": the lowest 8 bits are the last one, the next 8 bits the one before, and so on. */
    private static void puttingOneToEight() {
        String text = "+a1;0=b;";
        for (int length = 1; length <= 8; length++) {
            JettyHoses x = new JettyHoses();
            Check.due("25: " + length + " characters", x.put(Check.packed(text.substring(0, length))), length);
            boolean isWhole = length == 3 || length == 7;
            Check.due("25: they stand in their order, " + length, x.fault(), isWhole ? NONE : length);
        }
        JettyHoses x = new JettyHoses();
        Check.due("25: as a number", x.put(0x2b6139623831303cL), 8);
        Check.due("25: +a9b810<, the eighth cannot stand, nor the seventh", x.fault(), 6);
    }

    /** "TOO_MANY if the pad would be longer than 60": by each length that just fits, and by one more. */
    private static void puttingToTheBrim() {
        for (int length = 1; length <= 8; length++) {
            JettyHoses x = new JettyHoses();
            Check.write(x, SIXTY.substring(0, 61 - length));
            Check.due("25: one more than 60 by " + length, x.put(Check.packed("!!!!!!!!".substring(0, length))), TOO_MANY);
            Check.due("25: still " + (61 - length), x.count(18), 61 - length);
            x.wipe();
            Check.write(x, SIXTY.substring(0, 60 - length));
            Check.due("25: just 60 by " + length, x.put(Check.packed(SIXTY.substring(60 - length))), 60);
            Check.due("25: all of it stands there, by " + length, x.fault(), NONE);
        }
    }

    private static void puttingWrongly() {
        JettyHoses x = new JettyHoses();
        x.put('.');
        long[] bad = {
            0, 32, 127, 128, 255, -1, Long.MIN_VALUE, Long.MAX_VALUE,
            'a' << 8, 0x610061L, 0x6100000000000061L, 0x0100000000000061L, 0x6161616161616100L,
            0x2061L, 0x6120L, 0x7f61L, 0x617fL, 0x8061616161616161L, 0xff61616161616161L, 0x2061616161616161L, 0x0161616161616161L,
        };
        for (int i = 0; i < bad.length; i++) {
            Check.due("25: put(" + Long.toHexString(bad[i]) + ")", x.put(bad[i]), BAD_VALUE);
        }
        Check.due("25: nothing was appended", x.count(18), 1);
    }

    private static void puttingTooMany() {
        JettyHoses x = new JettyHoses();
        for (int i = 0; i < 7; i++) {
            x.put(Check.packed("aaaaaaaa"));
        }
        Check.due("25: 61", x.put(Check.packed("aaaaa")), TOO_MANY);
        Check.due("25: still 56", x.count(18), 56);
        Check.due("25: 60", x.put(Check.packed("aaaa")), 60);
        Check.due("25: 61 by one", x.put('a'), TOO_MANY);
        Check.due("25: a value is refused first", x.put(32), BAD_VALUE);
        Check.due("26: wipe()", x.wipe(), 60);
        Check.due("25: again", x.put('.'), 1);
    }

    private static void wiping() {
        JettyHoses x = new JettyHoses();
        Check.due("26: nothing there", x.wipe(), 0);
        x.put(Check.packed("0=a"));
        Check.due("26: three", x.wipe(), 3);
        Check.due("26: none any more", x.wipe(), 0);
        Check.due("26: count(18)", x.count(18), 0);
        Check.due("26: that is no change", x.count(19), 0);
        x.put(Check.packed(".5"));
        Check.due("26: what was there is gone", x.fault(), NONE);
        Check.due("26: two", x.count(18), 2);
    }

    private static void wipingAFullPad() {
        JettyHoses x = new JettyHoses();
        Check.write(x, SIXTY);
        Check.due("26: 60", x.wipe(), 60);
        Check.due("26: none", x.count(18), 0);
        Check.due("26: the fault of an empty pad", x.fault(), 0);
        Check.due("26: 60 again", Check.write(x, SIXTY), 60);
        Check.due("26: without a fault", x.fault(), NONE);
    }

    /** What was wiped, or run, does not go on behind what is put then. */
    private static void wipedCharactersAreGone() {
        String[] old = {"0=a", "0=a", ".12", "+a12", "+a1b2", "+a1b2", "+a1;.1", "0~;1~"};
        String[] put = {"0=", "0", ".", "+a", "+a1b", "+", "+a1;", "0~;"};
        for (int i = 0; i < old.length; i++) {
            JettyHoses x = new JettyHoses();
            Check.write(x, old[i]);
            x.wipe();
            Check.write(x, put[i]);
            Check.due("26: " + put[i] + " behind " + old[i], x.fault(), put[i].length());
            x = new JettyHoses();
            Check.write(x, old[i]);
            x.run();
            Check.write(x, put[i]);
            Check.due("14: " + put[i] + " behind " + old[i] + ", which was run", x.fault(), put[i].length());
        }
        JettyHoses x = new JettyHoses();
        Check.write(x, ".12");
        x.wipe();
        Check.write(x, ".1");
        Check.due("26: .1 behind .12", x.run(), 1);
        Check.due("26: hour 1", x.count(6), 1);
    }

    private static void texts() {
        String[] good = {
            "+a1", "+a400", "+d1", "+a1b2c3d4", "+a10b20c30d40", "+b399d1", "+a9;+a9",
            "0=a", "3=d", "0-", "3-", "0~", "3~", ".1", ".48", ".9", ".10", ".39",
            "0=a;1=b;2-;3~;.5;+c7", SIXTY,
        };
        for (int i = 0; i < good.length; i++) {
            Check.due("27: " + good[i], faultOf(good[i]), NONE);
        }
    }

    private static void faults() {
        String[] bad = {
            "", "x", ";", "4", "a", "=", "-", "0", "0x", "0;", "00", "0=", "0=e", "0=A", "0=0", "0=;", "0=ab", "0-a", "0--", "0~~", "0=a;", "0=a;;",
            "0=a;x", "0=a,", "+", "+e1", "+1", "+;", "+a", "+a0", "+a01", "+ab", "+a;", "+a401", "+a410", "+a4000", "+a500", "+a1000", "+a999", "+a1a1",
            "+b1a1", "+a1b", "+a1b0", "+a1b2a3", "+c1d2e3", "+d4d", "+a1b401", ".", ".0", ".01", ".49", ".50", ".480", ".99", ".100", ".a", ".;",
            ".-1", ".4;.", ".4;.4;", "1=a2=b", "+a40=b", "0=a;+a4;.48;3~;2-;9",
        };
        int[] at = {
            0, 0, 0, 0, 0, 0, 0, 1, 1, 1, 1, 2, 2, 2, 2, 2, 3, 2, 2, 2, 4, 4,
            4, 3, 1, 1, 1, 1, 2, 2, 2, 2, 2, 4, 4, 5, 4, 5, 4, 3,
            3, 4, 4, 5, 5, 3, 6, 1, 1, 1, 2, 2, 3, 2, 3, 1, 1,
            1, 4, 6, 3, 4, 18,
        };
        Check.due("27: as many faults as texts", at.length, bad.length);
        for (int i = 0; i < bad.length; i++) {
            Check.due("27: " + bad[i], faultOf(bad[i]), at[i]);
        }
    }

    /** A text that is cut off has no fault where an order may end, else its length. */
    private static void faultsOfEachPrefix() {
        String text = "+a12c400;0=d;1-;2~;.48;.5";
        boolean[] ends = new boolean[text.length() + 1];
        int[] wholes = {3, 4, 6, 7, 8, 12, 15, 18, 21, 22, 25};
        for (int i = 0; i < wholes.length; i++) {
            ends[wholes[i]] = true;
        }
        for (int length = 0; length <= text.length(); length++) {
            String part = text.substring(0, length);
            Check.due("27: " + part, faultOf(part), ends[length] ? NONE : length);
        }
    }

    /**
     * Each character from 33 to 126 behind each kind of beginning: "The fault is the index of the first character that cannot
     * stand at its place when the text is read from left to right (also of a digit by which a number would be too great)".
     */
    private static void faultsOfEachCharacter() {
        String start = "+.0123";
        String digits = "0123456789";
        String firstDigits = "123456789";
        String[][] beginnings = {
            {"", start}, {"+", "abcd"}, {"+a", firstDigits}, {"+b", firstDigits}, {"+c", firstDigits}, {"+d", firstDigits},
            {"+a1", digits + "bcd;"}, {"+b1", digits + "cd;"}, {"+c1", digits + "d;"}, {"+d1", digits + ";"},
            {"+a39", digits + "bcd;"}, {"+a40", "0bcd;"}, {"+a41", "bcd;"}, {"+a99", "bcd;"}, {"+a9", digits + "bcd;"},
            {"+a399", "bcd;"}, {"+a400", "bcd;"}, {"+b400", "cd;"}, {"+c400", "d;"}, {"+d400", ";"}, {"+d100", ";"},
            {"+a1b", firstDigits}, {"+a1c", firstDigits}, {"+a1d", firstDigits}, {"+a1b2", digits + "cd;"}, {"+a1c2", digits + "d;"},
            {"+a1d2", digits + ";"}, {"+a1b2c3", digits + "d;"}, {"+a1b2c3d", firstDigits}, {"+a1b2c3d4", digits + ";"},
            {"0", "=-~"}, {"1", "=-~"}, {"2", "=-~"}, {"3", "=-~"}, {"0=", "abcd"}, {"3=", "abcd"}, {"0=a", ";"}, {"3=d", ";"},
            {"0-", ";"}, {"3~", ";"}, {".", firstDigits}, {".1", digits + ";"}, {".3", digits + ";"}, {".4", "012345678;"},
            {".5", ";"}, {".9", ";"}, {".10", ";"}, {".48", ";"},
            {"0-;", start}, {".4;", start}, {".48;", start}, {"+a1;", start}, {"+d400;", start}, {"0=a;", start}, {"0~;", start},
            {".48;.", firstDigits}, {".48;3", "=-~"}, {"+d1;+", "abcd"}, {"+d1;+a", firstDigits},
        };
        for (String[] beginning : beginnings) {
            for (char sign = 33; sign <= 126; sign++) {
                String text = beginning[0] + sign;
                boolean canStand = beginning[1].indexOf(sign) >= 0;
                int fault = faultOf(text);
                if (canStand) {
                    Check.due("27: " + text + " can go on", fault == NONE || fault == text.length() ? 1 : 0, 1);
                } else {
                    Check.due("27: " + text, fault, text.length() - 1);
                }
            }
        }
    }

    /** "if there is none and the text ends too early (also if it is empty), it is the length of the text": 60, at most. */
    private static void faultsOfAFullPad() {
        Check.due("27: an empty one", faultOf(""), 0);
        Check.due("27: a full one", faultOf(SIXTY), NONE);
        String start = SIXTY.replace(".12", ".1").substring(0, 55);
        String[] early = {";2~;3", "1=a;+", ";.1;.", ";3=b;", ";.12;", ";+a1;", ";+a1b", ";+ab1", ";.481", ";.4;4", ";.4;x", ";.40x", ";0=a="};
        int[] at = {60, 55, 60, 60, 60, 60, 60, 58, 59, 59, 59, 59, 59};
        for (int i = 0; i < early.length; i++) {
            Check.due("27: behind 55 others, " + early[i], faultOf(start + early[i]), at[i]);
        }
    }

    private static void faultsChangeNothing() {
        String[] pads = {"", "0=", "0=a", "x", SIXTY};
        for (String pad : pads) {
            JettyHoses x = new JettyHoses();
            JettyHoses y = new JettyHoses();
            Check.write(x, pad);
            Check.write(y, pad);
            x.fault();
            x.fault();
            Check.dueTwins("27: fault() of " + pad, x, y);
        }
    }

    private static void runningAFullPad() {
        JettyHoses x = new JettyHoses();
        x.set(JettyHoses.DEPTH, 150);
        x.arrive(1, 0, 0, 0);
        x.berth();
        Check.write(x, SIXTY);
        // All but 0~ are done: no grade was in that hose.
        Check.due("14: 60 characters, twelve of thirteen orders", x.run(), 12);
        Check.due("14: hour 60", x.count(6), 60);
        Check.due("14: 1=a", x.hose(1, 2), 0);
        Check.due("14: the pad is empty", x.count(18), 0);
    }

    private static void running() {
        JettyHoses x = new JettyHoses();
        x.boom(true);
        x.arrive(1, 0, 0, 0);
        Check.write(x, "+b20d5;.2");
        Check.due("14: two orders", x.run(), 2);
        Check.due("14: the pad is empty", x.count(18), 0);
        Check.due("14: hour 2", x.count(6), 2);
        Check.due("14: a", x.tanker(2, 0), 0);
        Check.due("14: b", x.tanker(2, 1), 20);
        Check.due("14: c", x.tanker(2, 2), 0);
        Check.due("14: d", x.tanker(2, 3), 5);
        Check.due("14: it came ahead of the hours", x.tanker(2, 7), 2);
        x.berth();
        x.leave();
        x.berth();
        Check.write(x, "2=b;0=d;.1;2-;2~;0-;2=d");
        Check.due("14: seven orders", x.run(), 7);
        Check.due("14: b came into the tank, and was flushed", x.grade(1, 0), 5);
        Check.due("14: d came into the tank", x.grade(3, 0), 5);
        Check.due("14: connected by d", x.hose(2, 2), 3);
        Check.due("14: disconnected", x.hose(0, 2), NONE);
        Check.due("14: flushed", x.hose(2, 1), NONE);
        Check.due("14: not flushed", x.hose(0, 1), 3);
        Check.write(x, "+a1b2c3d4");
        x.run();
        for (int i = 0; i < 4; i++) {
            Check.due("14: all grades, " + i, x.tanker(1, i), i + 1);
        }
        Check.write(x, "+c9");
        x.run();
        Check.due("14: those that are not told are 0", x.tanker(2, 0) + x.tanker(2, 1) + x.tanker(2, 3), 0);
        Check.due("14: the one that is", x.tanker(2, 2), 9);
        Check.write(x, ".48;.12");
        x.run();
        Check.due("14: hour 63", x.count(6), 63);
    }

    private static void runningWhatIsNotPossible() {
        JettyHoses x = new JettyHoses();
        Check.write(x, "0=a;0-;0~;+a1;+a2;+a3;+a4;+a5;+a6;.1;0=a");
        Check.due("14: six of eleven", x.run(), 6);
        Check.due("14: five wait", x.count(9), 5);
        Check.due("14: no sixth", x.tanker(5, 0), 5);
        Check.due("14: an hour", x.count(6), 1);
        Check.due("14: no hose is connected", x.count(11), 0);
        Check.write(x, "0=a;1-");
        Check.due("14: none", x.run(), 0);
        Check.due("14: the pad is empty", x.count(18), 0);
        Check.due("14: a change, too", x.count(19), 2);
        for (int i = 0; i < 208; i++) {
            x.pass(48);
        }
        Check.write(x, ".48;.14;.1");
        Check.due("14: not beyond the last hour", x.run(), 1);
        Check.due("14: hour 9999", x.count(6), 9999);
    }

    private static void runningAFault() {
        JettyHoses x = new JettyHoses();
        Check.due("14: an empty pad", x.run(), BAD_TEXT);
        Check.write(x, ".1;.2;.3;");
        Check.due("14: ends too early", x.run(), BAD_TEXT);
        Check.due("14: the pad is as it was", x.count(18), 9);
        Check.due("14: no hour", x.count(6), 0);
        Check.due("14: no change", x.count(19), 0);
        x.put('.');
        x.put('4');
        Check.due("14: no fault any more", x.run(), 4);
        Check.due("14: hour 10", x.count(6), 10);
        Check.due("14: none to do again", x.run(), BAD_TEXT);
    }

    private static void runningIsOneChange() {
        JettyHoses x = new JettyHoses();
        x.set(JettyHoses.LAY, 0);
        Check.write(x, "+a1;+b2;.3;.4");
        x.run();
        Check.due("14: one more change", x.count(19), 2);
        Check.due("28: undone", x.undo(), 1);
        Check.due("28: hour 0", x.count(6), 0);
        Check.due("28: none waits", x.tanker(1, 0), NO_SUCH);
        Check.due("28: not the pad", x.count(18), 0);
        Check.due("28: the setting is as it was", x.count(4), 0);
        Check.due("28: that, too", x.undo(), 0);
        Check.due("28: the first setting", x.count(4), 24);
        Check.due("28: no more", x.undo(), NOT_POSSIBLE);
    }
}
