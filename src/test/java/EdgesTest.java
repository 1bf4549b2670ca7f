/** The boundary cases of promises 2 to 30 in which a call is done, a test for each sentence; what is refused stands in RefusalsTest. */
public final class EdgesTest {
    private static final int NONE = JettyHoses.NONE, NOT_POSSIBLE = JettyHoses.NOT_POSSIBLE, TOO_MANY = JettyHoses.TOO_MANY;
    private static final int NO_SUCH = JettyHoses.NO_SUCH;

    public static void main(String[] args) {
        setReturnsThePrevious();
        arriveFromOneUnit();
        arriveUpToFive();
        berthJustFloats();
        leaveJustFloats();
        leaveWithWhatever();
        leaveBehindTheLastHose();
        reachAtItsEnds();
        reachOfAnyHose();
        connectUpToFour();
        connectJustSoHigh();
        connectByTheHeightNow();
        disconnectEachGrade();
        flushUpToFive();
        flushOfTheGradeThatWas();
        mendUpToFour();
        boomFromNothingToFull();
        drawAtItsEnds();
        passAtItsEnds();
        passToTheLastHour();
        passReturnsWhatCame();
        runPassesOver();
        tankerAtEachPlace();
        tankerHours();
        hoseWithoutAGrade();
        gradeInAllTankers();
        countAtItsEnds();
        tideFromZero();
        floatsBehindEachHour();
        floatsInNone();
        safeAtItsEnds();
        safeBeyondTheLastHour();
        emptyAtItsEnds();
        emptyIsNotTheTank();
        passedAtItsEnds();
        reachAtItsLeastAndGreatest();
        reachForItsTurn();
        undoUpToSix();
        undoRecordsNothing();
        undoOfWhatMadeNoDifference();
        undoKeepsPadAndSlots();
        saveAtEachHour();
        saveOverwrites();
        restoreKeepsTheSlot();
        restoreKeepsPadAndHistory();
        Check.end("EdgesTest");
    }

    /** One tanker at the berth, floating at any tide; no tide; the boom laid. */
    private static JettyHoses still(int a, int b, int c, int d) {
        JettyHoses x = new JettyHoses();
        x.set(JettyHoses.DEPTH, 150);
        x.set(JettyHoses.AMPLITUDE, 0);
        x.arrive(a, b, c, d);
        x.berth();
        x.boom(true);
        return x;
    }

    private static JettyHoses atHour(int hour) {
        JettyHoses x = new JettyHoses();
        for (int left = hour; left > 0; left -= 48) {
            x.pass(Math.min(left, 48));
        }
        return x;
    }

    // ---- 2 to 6

    /** Promise 2: "Returns the previous value", also if it is the same. */
    private static void setReturnsThePrevious() {
        int[] least = {50, 0, 0, 1, 0, 1};
        int[] most = {150, 40, 20, 40, 99, 99};
        int[] first = {90, 20, 5, 10, 24, 5};
        JettyHoses x = new JettyHoses();
        for (int i = 0; i < 6; i++) {
            Check.due("2: the first of " + i, x.set(i, most[i]), first[i]);
            Check.due("2: the greatest of " + i, x.set(i, most[i]), most[i]);
            Check.due("2: the greatest again of " + i, x.set(i, least[i]), most[i]);
            Check.due("2: the least of " + i, x.set(i, least[i]), least[i]);
            Check.due("2: count(" + i + ")", x.count(i), least[i]);
        }
    }

    /** Promise 3: "0 to 400, and so on; one of them at least above 0". */
    private static void arriveFromOneUnit() {
        for (int grade = 0; grade < 4; grade++) {
            int[] units = {1, 400};
            for (int many : units) {
                JettyHoses x = new JettyHoses();
                int answer = x.arrive(grade == 0 ? many : 0, grade == 1 ? many : 0, grade == 2 ? many : 0, grade == 3 ? many : 0);
                Check.due("3: " + many + " of " + grade, answer, 1);
                for (int i = 0; i < 4; i++) {
                    Check.due("3: tanker(1, " + i + ")", x.tanker(1, i), i == grade ? many : 0);
                }
            }
        }
        Check.due("3: 400 of each", new JettyHoses().arrive(400, 400, 400, 400), 1);
    }

    /** Promise 3: "Returns how many tankers wait then; .. TOO_MANY if 5 wait." The one at the berth does not wait. */
    private static void arriveUpToFive() {
        JettyHoses x = new JettyHoses();
        x.arrive(9, 0, 0, 0);
        x.berth();
        for (int i = 1; i <= 5; i++) {
            Check.due("3: " + i + " wait", x.arrive(i, 0, 0, 0), i);
        }
        Check.due("3: 5 wait", x.arrive(6, 0, 0, 0), TOO_MANY);
        x.leave();
        Check.due("3: 5 wait, also if none is at the berth", x.arrive(6, 0, 0, 0), TOO_MANY);
        x.berth();
        Check.due("3: 4 wait", x.arrive(6, 0, 0, 0), 5);
    }

    /** Promise 4: "Returns its units, of all grades; NOT_POSSIBLE if .. it would not float." */
    private static void berthJustFloats() {
        int[] depths = {124, 125};
        for (int depth : depths) {
            JettyHoses x = new JettyHoses();
            x.arrive(400, 400, 400, 400);
            x.set(JettyHoses.DEPTH, depth);
            Check.due("4: a full one by " + depth, x.berth(), depth == 125 ? 1600 : NOT_POSSIBLE);
            Check.due("4: one is there by " + depth, x.count(10), depth == 125 ? 1 : 0);
        }
        JettyHoses x = new JettyHoses();
        x.arrive(0, 0, 0, 1);
        x.set(JettyHoses.DEPTH, 50);
        Check.due("4: one unit", x.berth(), 1);
    }

    /** Promise 5: "NOT_POSSIBLE if .. it does not float". */
    private static void leaveJustFloats() {
        int[] depths = {64, 65};
        for (int depth : depths) {
            JettyHoses x = still(100, 100, 100, 100);
            x.set(JettyHoses.DEPTH, depth);
            Check.due("5: by " + depth, x.leave(), depth == 65 ? 400 : NOT_POSSIBLE);
            Check.due("5: one is there by " + depth, x.count(10), depth == 65 ? 0 : 1);
        }
        JettyHoses x = still(400, 0, 0, 0);
        x.set(JettyHoses.DEPTH, 65);
        x.set(JettyHoses.AMPLITUDE, 20);
        x.pass(7);
        Check.due("5: at a low tide", x.leave(), NOT_POSSIBLE);
        x.pass(5);
        Check.due("5: the tide has come", x.leave(), 400);
    }

    /** Promise 5: "with whatever it has. .. Returns its units, of all grades". */
    private static void leaveWithWhatever() {
        JettyHoses x = still(7, 0, 0, 0);
        x.connect(0, 0);
        x.pass(1);
        x.disconnect(0);
        Check.due("5: with nothing", x.leave(), 0);
        Check.due("5: the tank is as it was", x.grade(0, 0), 7);
        Check.due("5: with all", still(400, 400, 400, 400).leave(), 1600);
        Check.due("5: with one", still(0, 0, 1, 0).leave(), 1);
    }

    /** Promise 5: "or a hose is connected": any of them; one that is burst is not connected. */
    private static void leaveBehindTheLastHose() {
        for (int hose = 0; hose < 4; hose++) {
            JettyHoses x = still(400, 0, 0, 0);
            x.connect(hose, 3);
            Check.due("5: hose " + hose, x.leave(), NOT_POSSIBLE);
            x.disconnect(hose);
            Check.due("5: not hose " + hose, x.leave(), 400);
            x = still(400, 0, 0, 0);
            x.connect(hose, 3);
            x.reach(hose, 20);
            x.pass(1);
            Check.due("5: hose " + hose + " is burst", x.leave(), 400);
        }
    }

    /** Promise 6: "reach: 20 to 120 .. Returns the previous one". */
    private static void reachAtItsEnds() {
        JettyHoses x = new JettyHoses();
        for (int hose = 0; hose < 4; hose++) {
            Check.due("6: the least of " + hose, x.reach(hose, 20), 90);
            Check.due("6: hose(" + hose + ", 0)", x.hose(hose, 0), 20);
            Check.due("6: the same of " + hose, x.reach(hose, 20), 20);
            Check.due("6: the greatest of " + hose, x.reach(hose, 120), 20);
            Check.due("6: hose(" + hose + ", 0) then", x.hose(hose, 0), 120);
        }
    }

    /** Promise 6 refuses no hose: also of one that is connected (which does not burst by that), and of one that is burst. */
    private static void reachOfAnyHose() {
        JettyHoses x = still(400, 0, 0, 0);
        x.connect(0, 0);
        Check.due("6: connected", x.reach(0, 20), 90);
        Check.due("6: it is connected still", x.hose(0, 2), 0);
        Check.due("6: it is not burst", x.hose(0, 3), 0);
        x.pass(1);
        Check.due("6: an hour later it is", x.hose(0, 3), 1);
        Check.due("6: burst", x.reach(0, 60), 20);
        Check.due("6: it is burst still", x.hose(0, 3), 1);
    }

    // ---- 7 to 12

    /** Promise 7: "Returns how many hoses are connected then". */
    private static void connectUpToFour() {
        JettyHoses x = still(400, 400, 400, 400);
        int[] order = {3, 0, 2, 1};
        for (int i = 0; i < 4; i++) {
            Check.due("7: hose " + order[i], x.connect(order[i], order[i]), i + 1);
        }
        x.disconnect(2);
        Check.due("7: by another grade than that of the others", x.connect(2, 0), 4);
    }

    /** Promise 7: "or the height of the tanker now is above its reach." */
    private static void connectJustSoHigh() {
        JettyHoses x = still(400, 0, 0, 0);
        x.reach(0, 39);
        x.reach(1, 40);
        x.reach(2, 41);
        Check.due("7: 40 is above 39", x.connect(0, 0), NOT_POSSIBLE);
        Check.due("7: not above 40", x.connect(1, 0), 1);
        Check.due("7: not above 41", x.connect(2, 0), 2);
        x = still(400, 400, 400, 400);
        x.reach(0, 20);
        Check.due("7: a height below 0", x.connect(0, 0), 1);
    }

    /** Promise 7: "the height of the tanker now": by the tide of this hour, and by what it has now. */
    private static void connectByTheHeightNow() {
        JettyHoses x = new JettyHoses();
        x.arrive(400, 0, 0, 0);
        x.berth();
        x.reach(0, 45);
        Check.due("7: 40", x.connect(0, 0), 1);
        x.disconnect(0);
        x.pass(1);
        Check.due("7: 50", x.connect(0, 0), NOT_POSSIBLE);
        x.pass(5);
        Check.due("7: 40 again", x.connect(0, 0), 1);
        x.disconnect(0);
        x.boom(true);
        x.set(JettyHoses.AMPLITUDE, 0);
        x.set(JettyHoses.RATE, 40);
        x.connect(1, 0);
        x.pass(3);
        Check.due("7: 46, 120 units less", x.connect(0, 0), NOT_POSSIBLE);
        x.reach(0, 46);
        Check.due("7: just so", x.connect(0, 0), 2);
    }

    /** Promise 8: "Returns the grade by which it was connected". */
    private static void disconnectEachGrade() {
        JettyHoses x = still(400, 0, 0, 0);
        for (int hose = 0; hose < 4; hose++) {
            for (int grade = 0; grade < 4; grade++) {
                x.connect(hose, grade);
                Check.due("8: hose " + hose + " by " + grade, x.disconnect(hose), grade);
                Check.due("8: hose " + hose + " by none", x.disconnect(hose), NOT_POSSIBLE);
            }
        }
    }

    /** Promise 9: "5 units .. are lost from its tank (all, if it has fewer)". */
    private static void flushUpToFive() {
        int[] tanks = {0, 1, 4, 5, 6};
        for (int tank : tanks) {
            JettyHoses x = still(400, 0, 0, 0);
            x.connect(3, 0);
            x.pass(1);
            x.disconnect(3);
            x.draw(0, 10 - tank);
            int lost = Math.min(tank, 5);
            Check.due("9: of " + tank, x.flush(3), lost);
            Check.due("9: left of " + tank, x.grade(0, 0), tank - lost);
            Check.due("9: spoilt of " + tank, x.grade(0, 2), lost);
            Check.due("9: not by the hose, " + tank, x.hose(3, 5), 0);
            Check.due("9: no grade in it, " + tank, x.hose(3, 1), NONE);
            Check.due("9: and not again, " + tank, x.flush(3), NOT_POSSIBLE);
        }
    }

    /** Promise 9: "of the grade that was": the last one, whatever was before it. */
    private static void flushOfTheGradeThatWas() {
        JettyHoses x = still(100, 100, 100, 100);
        for (int grade = 0; grade < 4; grade++) {
            x.connect(0, grade);
            x.pass(2);
            x.disconnect(0);
        }
        Check.due("9: d", x.flush(0), 5);
        int[] tanks = {20, 10, 10, 5};
        int[] spoilt = {0, 10, 10, 15};
        for (int grade = 0; grade < 4; grade++) {
            Check.due("9: the tank of " + grade, x.grade(grade, 0), tanks[grade]);
            Check.due("9: spoilt of " + grade, x.grade(grade, 2), spoilt[grade]);
        }
        Check.due("9: by the hose itself", x.hose(0, 5), 30);
    }

    /** Promise 10: "Returns how many hoses are burst then". */
    private static void mendUpToFour() {
        JettyHoses x = still(400, 0, 0, 0);
        for (int hose = 0; hose < 4; hose++) {
            x.connect(hose, 0);
            x.reach(hose, 20);
        }
        x.pass(1);
        Check.due("10: all are burst", x.count(12), 4);
        int[] order = {2, 0, 3, 1};
        for (int i = 0; i < 4; i++) {
            Check.due("10: hose " + order[i], x.mend(order[i]), 3 - i);
            Check.due("10: not again " + order[i], x.mend(order[i]), NOT_POSSIBLE);
            Check.due("10: its reach is as it was", x.hose(order[i], 0), 20);
        }
    }

    /** Promise 11: "Returns how many units it held". */
    private static void boomFromNothingToFull() {
        JettyHoses x = still(400, 0, 0, 0);
        Check.due("11: nothing", x.boom(false), 0);
        Check.due("11: laid", x.boom(true), 0);
        x.set(JettyHoses.RATE, 1);
        x.connect(0, 0);
        x.reach(0, 20);
        x.pass(1);
        Check.due("11: one", x.boom(false), 1);
        Check.due("11: caught", x.count(16), 1);
        x.boom(true);
        x.set(JettyHoses.RATE, 40);
        for (int i = 0; i < 5; i++) {
            x.mend(0);
            x.reach(0, 120);
            x.connect(0, 0);
            x.reach(0, 20);
            x.pass(1);
        }
        Check.due("11: 200", x.boom(false), 200);
        Check.due("11: caught, together", x.count(16), 201);
        Check.due("11: laid anew, it is empty", x.boom(true), 0);
        Check.due("11: out again", x.boom(false), 0);
        Check.due("11: caught as before", x.count(16), 201);
    }

    /** Promise 12: "units: 1 to 1000 .. Returns how many it has then; .. NOT_POSSIBLE if it has not so many." */
    private static void drawAtItsEnds() {
        JettyHoses x = still(400, 0, 0, 0);
        x.set(JettyHoses.RATE, 40);
        for (int i = 0; i < 3; i++) {
            x.connect(0, 0);
            x.pass(10);
            x.disconnect(0);
            x.leave();
            x.arrive(400, 0, 0, 0);
            x.berth();
        }
        x.save(0);
        Check.due("12: 1 of 1000", x.draw(0, 1), 999);
        Check.due("12: 1000 of 999", x.draw(0, 1000), NOT_POSSIBLE);
        Check.due("12: 999 of 999", x.draw(0, 999), 0);
        Check.due("12: 1 of 0", x.draw(0, 1), NOT_POSSIBLE);
        x.restore(0);
        Check.due("12: 1000 of 1000", x.draw(0, 1000), 0);
    }

    // ---- 13, 14

    /** Promise 13: "hours: 1 to 48". */
    private static void passAtItsEnds() {
        JettyHoses x = new JettyHoses();
        Check.due("13: 1", x.pass(1), 0);
        Check.due("13: hour 1", x.count(6), 1);
        Check.due("13: 48", x.pass(48), 0);
        Check.due("13: hour 49", x.count(6), 49);
    }

    /** Promise 13: "TOO_MANY if the hour would be above 9999." */
    private static void passToTheLastHour() {
        int[] from = {9951, 9952, 9998, 9999};
        int[] hours = {48, 48, 1, 1};
        for (int i = 0; i < from.length; i++) {
            JettyHoses x = atHour(from[i]);
            boolean isPossible = from[i] + hours[i] <= 9999;
            Check.due("13: " + hours[i] + " from " + from[i], x.pass(hours[i]), isPossible ? 0 : TOO_MANY);
            Check.due("13: the hour then", x.count(6), isPossible ? 9999 : from[i]);
        }
    }

    /** Promise 13: "Returns how many units come into tanks in them": not those that are spoilt or spilt. */
    private static void passReturnsWhatCame() {
        JettyHoses x = still(100, 100, 100, 0);
        x.connect(0, 0);
        x.connect(1, 1);
        x.connect(2, 1);
        Check.due("13: 48 hours", x.pass(48), 200);
        Check.due("13: none left of a and b", x.tanker(0, 0) + x.tanker(0, 1), 0);
        Check.due("13: nothing more", x.pass(48), 0);
        x.disconnect(1);
        x.connect(1, 2);
        Check.due("13: 10 are spoilt, 10 come", x.pass(2), 10);
        x.disconnect(2);
        x.connect(2, 2);
        x.reach(1, 20);
        Check.due("13: 10 are spilt, 10 spoilt, 10 come", x.pass(2), 10);
    }

    /** Promise 14: "one for which its method would return an error is passed over": each kind of order. */
    private static void runPassesOver() {
        String[] orders = {"+a1", "0=a", "0-", "0~", ".1"};
        for (String order : orders) {
            JettyHoses x = atHour(9999);
            for (int i = 0; i < 5; i++) {
                x.arrive(1, 0, 0, 0);
            }
            int[] before = Check.picture(x);
            Check.write(x, order);
            int changes = x.count(19);
            Check.due("14: " + order, x.run(), 0);
            Check.duePicture("14: " + order, x, before);
            Check.due("14: the pad is emptied, " + order, x.count(18), 0);
            Check.due("14: it is a change, " + order, x.count(19), Math.min(changes + 1, 6));
        }
        JettyHoses x = atHour(9997);
        Check.write(x, ".3;.2;.1;+d400");
        Check.due("14: those between are done", x.run(), 2);
        Check.due("14: hour 9999", x.count(6), 9999);
        Check.due("14: one waits", x.tanker(1, 3), 400);
    }

    // ---- 15 to 19

    /** Promise 15: "place: 0 for the one at the berth, 1 for the first one that waits, and so on". */
    private static void tankerAtEachPlace() {
        JettyHoses x = new JettyHoses();
        for (int i = 1; i <= 5; i++) {
            x.arrive(i, 0, 0, 400);
        }
        Check.due("15: none at the berth", x.tanker(0, 0), NO_SUCH);
        for (int place = 1; place <= 5; place++) {
            Check.due("15: the place " + place, x.tanker(place, 0), place);
        }
        Check.due("15: no place 6", x.tanker(6, 0), NO_SUCH);
        x.berth();
        for (int place = 0; place <= 4; place++) {
            Check.due("15: then the place " + place, x.tanker(place, 0), place + 1);
            Check.due("15: its d", x.tanker(place, 3), 400);
        }
        Check.due("15: no place 5 any more", x.tanker(5, 0), NO_SUCH);
    }

    /** Promise 15: "7 how many hours it has been there": from its hour on, waiting or at the berth. */
    private static void tankerHours() {
        JettyHoses x = atHour(9951);
        x.arrive(1, 0, 0, 0);
        Check.due("15: 0 hours", x.tanker(1, 7), 0);
        x.pass(1);
        x.arrive(2, 0, 0, 0);
        Check.due("15: 1 hour", x.tanker(1, 7), 1);
        Check.due("15: 0 hours of the other", x.tanker(2, 7), 0);
        x.berth();
        Check.due("15: 1 hour, at the berth", x.tanker(0, 7), 1);
        Check.due("15: 0 hours of the other, which moves up", x.tanker(1, 7), 0);
        x.pass(47);
        Check.due("15: 48 hours", x.tanker(0, 7), 48);
        Check.due("15: 47 hours", x.tanker(1, 7), 47);
    }

    /** Promise 16: "1 the grade that was in it last (NONE), 2 the grade by which it is connected (NONE)". */
    private static void hoseWithoutAGrade() {
        JettyHoses x = still(400, 0, 0, 0);
        for (int hose = 0; hose < 4; hose++) {
            Check.due("16: none was in " + hose, x.hose(hose, 1), NONE);
            Check.due("16: none connects " + hose, x.hose(hose, 2), NONE);
            x.connect(hose, 0);
            Check.due("16: a connects, grade 0 and not NONE, " + hose, x.hose(hose, 2), 0);
            Check.due("16: none was in it yet, " + hose, x.hose(hose, 1), NONE);
            x.pass(1);
            Check.due("16: a was in it, grade 0 and not NONE, " + hose, x.hose(hose, 1), 0);
            x.disconnect(hose);
            Check.due("16: none connects any more, " + hose, x.hose(hose, 2), NONE);
            x.flush(hose);
            Check.due("16: none was in it, flushed, " + hose, x.hose(hose, 1), NONE);
        }
    }

    /** Promise 17: "1 units of it in all tankers that are there": at the berth and waiting, not those that left. */
    private static void gradeInAllTankers() {
        JettyHoses x = new JettyHoses();
        Check.due("17: none", x.grade(3, 1), 0);
        x.set(JettyHoses.DEPTH, 150);
        x.arrive(0, 0, 0, 400);
        x.berth();
        for (int i = 0; i < 5; i++) {
            x.arrive(1, 0, 0, 400);
        }
        Check.due("17: six", x.grade(3, 1), 2400);
        Check.due("17: five", x.grade(0, 1), 5);
        Check.due("17: none of b", x.grade(1, 1), 0);
        x.leave();
        Check.due("17: five are left", x.grade(3, 1), 2000);
        Check.due("17: all of a are", x.grade(0, 1), 5);
    }

    /** Promise 18: "18 the length of the pad, 19 how many changes can be undone", and the others at their ends. */
    private static void countAtItsEnds() {
        JettyHoses x = new JettyHoses();
        Check.due("18: an empty pad", x.count(18), 0);
        for (int length = 1; length <= 60; length++) {
            x.put('a');
            Check.due("18: a pad of " + length, x.count(18), length);
        }
        for (int changes = 0; changes <= 8; changes++) {
            Check.due("18: behind " + changes + " changes", x.count(19), Math.min(changes, 6));
            x.reach(0, 50);
        }
        x.set(JettyHoses.DEPTH, 50);
        x.set(JettyHoses.AMPLITUDE, 40);
        x.pass(9);
        Check.due("18: the lowest tide", x.count(7), -40);
        Check.due("18: the least depth", x.count(8), 10);
        x.set(JettyHoses.DEPTH, 150);
        x.pass(6);
        Check.due("18: the highest tide", x.count(7), 40);
        Check.due("18: the greatest depth", x.count(8), 190);
        Check.due("18: the last hour", atHour(9999).count(6), 9999);
    }

    /** Promise 19: "hour: 0 or more". */
    private static void tideFromZero() {
        JettyHoses x = new JettyHoses();
        Check.due("19: 0", x.tide(0), 0);
        Check.due("19: 1", x.tide(1), 10);
        Check.due("19: beyond the last hour", x.tide(9999 + 12), 20);
        Check.due("19: 2147483647, by 12 left 7", x.tide(Integer.MAX_VALUE), -10);
        x.pass(5);
        Check.due("19: not from now on", x.tide(3), 20);
    }

    // ---- 20 to 24

    /** Promise 20: "Returns how many (0 if it does now)": the first hour, by the whole round of the tide. */
    private static void floatsBehindEachHour() {
        // By AMPLITUDE 20 it floats with a tide of 20, of 18, of 10, of 0, of -10, of -18 and of -20.
        int[] keels = {20, 18, 10, 0};
        int[][] due = {
            {3, 2, 1, 0, 11, 10, 9, 8, 7, 6, 5, 4},
            {2, 1, 0, 0, 0, 9, 8, 7, 6, 5, 4, 3},
            {1, 0, 0, 0, 0, 0, 7, 6, 5, 4, 3, 2},
            {0, 0, 0, 0, 0, 0, 0, 5, 4, 3, 2, 1},
        };
        for (int i = 0; i < keels.length; i++) {
            for (int hour = 0; hour < 24; hour++) {
                JettyHoses x = atHour(hour);
                x.arrive(200, 0, 0, 0);
                x.set(JettyHoses.DEPTH, 50);
                x.set(JettyHoses.KEEL, keels[i]);
                Check.due("20: with a tide of " + keels[i] + ", at hour " + hour, x.untilFloats(), due[i][hour % 12]);
            }
        }
        JettyHoses x = atHour(9999);
        x.arrive(200, 0, 0, 0);
        x.set(JettyHoses.DEPTH, 50);
        x.set(JettyHoses.KEEL, 20);
        Check.due("20: at the last hour", x.untilFloats(), 0);
    }

    /** Promise 20: "NONE if it does in none of the next 12." */
    private static void floatsInNone() {
        for (int hour = 0; hour < 12; hour++) {
            JettyHoses x = atHour(hour);
            x.arrive(220, 0, 0, 0);
            x.set(JettyHoses.DEPTH, 50);
            x.set(JettyHoses.KEEL, 20);
            Check.due("20: a draught of 51, at hour " + hour, x.untilFloats(), NONE);
            x.set(JettyHoses.DEPTH, 51);
            Check.due("20: one deeper, at hour " + hour, x.untilFloats(), (15 - hour) % 12);
        }
    }

    /** Promise 21: "NONE if it does not burst in 200 hours", else 0 to 199. */
    private static void safeAtItsEnds() {
        int[] units = {200, 201, 202, 398, 399};
        int[] safe = {1, 2, 3, 199, NONE};
        for (int i = 0; i < units.length; i++) {
            // By one unit an hour; it bursts in the hour that begins with 199 units.
            JettyHoses x = still(units[i], 0, 0, 0);
            x.set(JettyHoses.RATE, 1);
            x.connect(0, 0);
            x.reach(0, 50);
            Check.due("21: of " + units[i], x.safeFor(0), safe[i]);
        }
        JettyHoses x = still(400, 0, 0, 0);
        x.connect(0, 0);
        x.reach(0, 39);
        Check.due("21: it bursts in the next", x.safeFor(0), 0);
        x.reach(0, 40);
        Check.due("21: what it moves lifts the tanker to 41", x.safeFor(0), 1);
        Check.due("21: it did not burst by that", x.hose(0, 3), 0);
    }

    /** Promise 21: "hours above 9999 do not matter in this and the others". */
    private static void safeBeyondTheLastHour() {
        JettyHoses x = atHour(9999);
        x.set(JettyHoses.LAY, 99);
        x.arrive(100, 0, 0, 0);
        x.berth();
        x.connect(0, 0);
        // A draught of 45; the tide is 20 now, and then again behind 12 hours; nothing moves, for the boom is out.
        x.reach(0, 74);
        Check.due("21: behind 11", x.safeFor(0), 11);
        Check.due("24: behind 9999", x.leastReach(0), 75);
        Check.due("22: none leave it", x.untilEmpty(), NONE);
        x.reach(0, 75);
        Check.due("21: behind none", x.safeFor(0), NONE);
        x.reach(0, 74);
        Check.due("23: what is spilt behind 11", x.ifPassed(11, 1), 0);
        Check.due("23: what is spilt behind 12", x.ifPassed(12, 1), 10);
        Check.due("23: what 200 cost", x.ifPassed(200, 3), 101 * 5);
        x.boom(true);
        x.reach(0, 120);
        Check.due("22: behind 9999", x.untilEmpty(), 10);
        Check.due("23: what comes behind 9999", x.ifPassed(200, 0), 100);
        Check.due("13: but no hour passes", x.pass(1), TOO_MANY);
    }

    /** Promise 22: "Returns how many (0 if it has none); .. NONE if it has some behind 200 hours." */
    private static void emptyAtItsEnds() {
        int[] units = {1, 2, 199, 200, 201, 400};
        int[] hours = {1, 2, 199, 200, NONE, NONE};
        for (int i = 0; i < units.length; i++) {
            JettyHoses x = still(0, 0, 0, units[i]);
            x.set(JettyHoses.RATE, 1);
            x.connect(1, 3);
            x.reach(1, 120);
            Check.due("22: of " + units[i], x.untilEmpty(), hours[i]);
        }
        JettyHoses x = still(0, 0, 0, 3);
        x.connect(1, 3);
        x.pass(1);
        Check.due("22: it has none", x.untilEmpty(), 0);
        x.disconnect(1);
        Check.due("22: also without a hose", x.untilEmpty(), 0);
        x.leave();
        Check.due("22: none is there", x.untilEmpty(), NOT_POSSIBLE);
    }

    /** Promise 22: "has no units any more": by what is stored, spoilt or spilt; not if a tank has no room. */
    private static void emptyIsNotTheTank() {
        JettyHoses x = still(30, 10, 0, 0);
        x.connect(0, 1);
        x.pass(1);
        x.disconnect(0);
        x.connect(0, 0);
        Check.due("22: spoilt, and then stored", x.untilEmpty(), 3);
        x.reach(0, 20);
        Check.due("22: spilt once, and then no hose", x.untilEmpty(), NONE);
        x.set(JettyHoses.RATE, 30);
        Check.due("22: spilt at once", x.untilEmpty(), 1);

        x = still(400, 0, 0, 0);
        x.set(JettyHoses.RATE, 40);
        for (int i = 0; i < 3; i++) {
            x.connect(0, 0);
            x.pass(10);
            x.disconnect(0);
            x.leave();
            x.arrive(400, 0, 0, 0);
            x.berth();
        }
        x.connect(0, 0);
        Check.due("22: no room", x.untilEmpty(), NONE);
        x.draw(0, 399);
        Check.due("22: room for all but one", x.untilEmpty(), NONE);
        x.draw(0, 1);
        Check.due("22: room for all", x.untilEmpty(), 10);
    }

    /** Promise 23: "hours: 1 to 200 .. what: 0 .. 3". */
    private static void passedAtItsEnds() {
        JettyHoses x = still(400, 100, 0, 0);
        x.set(JettyHoses.RATE, 1);
        x.set(JettyHoses.LAY, 0);
        x.connect(0, 1);
        x.pass(1);
        x.disconnect(0);
        x.connect(0, 0);
        x.connect(1, 1);
        x.reach(1, 20);
        x.boom(false);
        x.boom(true);
        // 499 units: a height of 36, so that hose 1 bursts at once; hose 0 spoils one unit, and then moves one an hour.
        int[][] due = {{0, 0, 1, 5}, {199, 0, 1, 1000}};
        for (int what = 0; what < 4; what++) {
            Check.due("23: 1 hour, " + what, x.ifPassed(1, what), due[0][what]);
            Check.due("23: 200 hours, " + what, x.ifPassed(200, what), due[1][what]);
        }
        x.boom(false);
        Check.due("23: 1 hour without the boom", x.ifPassed(1, 1), 1);
        Check.due("23: 200 hours without the boom", x.ifPassed(200, 1), 1);
        Check.due("23: nothing is spoilt then", x.ifPassed(200, 2), 0);
        Check.due("23: nor stored", x.ifPassed(200, 0), 0);
    }

    /** Promise 24: "Returns the reach, 20 to 120". No height is above 100, so that there is always one. */
    private static void reachAtItsLeastAndGreatest() {
        int[] units = {780, 799, 800, 840, 1200, 1600};
        int[] due = {21, 21, 20, 20, 20, 20};
        for (int i = 0; i < units.length; i++) {
            int rest = units[i] - Math.min(units[i], 800);
            JettyHoses x = still(Math.min(units[i], 400), Math.min(units[i] - 400, 400), Math.min(rest, 400), rest - Math.min(rest, 400));
            x.boom(false);
            x.connect(0, 0);
            Check.due("24: of " + units[i], x.leastReach(0), due[i]);
        }
        JettyHoses x = still(1, 0, 0, 0);
        x.set(JettyHoses.AMPLITUDE, 40);
        x.connect(3, 0);
        Check.due("24: the greatest height", x.leastReach(3), 100);
        Check.due("24: as a reach it is safe", x.reach(3, 100), 90);
        Check.due("24: safeFor()", x.safeFor(3), NONE);
        x.reach(3, 99);
        Check.due("24: one less is not", x.safeFor(3), 2);
    }

    /** Promise 24: "with which it would not burst in the next 200 hours": the height when its turn comes, not that of the hour. */
    private static void reachForItsTurn() {
        JettyHoses x = still(400, 0, 0, 0);
        x.set(JettyHoses.RATE, 40);
        x.connect(0, 0);
        x.connect(1, 0);
        x.reach(1, 20);
        x.boom(false);
        Check.due("24: ahead of the one that bursts, an hour later", x.leastReach(0), 42);
        Check.due("24: that one itself", x.leastReach(1), 40);
        x.reach(0, 20);
        Check.due("24: both burst, and it alone would not", x.leastReach(1), 42);
        Check.due("24: the other", x.leastReach(0), 42);
        for (int hose = 0; hose < 2; hose++) {
            x.reach(hose, 42);
            Check.due("24: safe by it, " + hose, x.safeFor(hose), NONE);
            x.reach(hose, 20);
        }
    }

    // ---- 28 to 30

    /** Promise 28: "A history of at most 6 states is kept .. when one more is recorded, the oldest one is dropped." */
    private static void undoUpToSix() {
        for (int changes = 0; changes <= 13; changes++) {
            JettyHoses x = new JettyHoses();
            for (int i = 1; i <= changes; i++) {
                x.reach(0, 20 + i);
            }
            int kept = Math.min(changes, 6);
            for (int left = kept - 1; left >= 0; left--) {
                Check.due("28: of " + changes + ", left", x.undo(), left);
                int before = changes - kept + left;
                Check.due("28: of " + changes + ", the reach behind " + before, x.hose(0, 0), before == 0 ? 90 : 20 + before);
            }
            Check.due("28: of " + changes + ", none", x.undo(), NOT_POSSIBLE);
            Check.due("28: of " + changes + ", a change then", x.reach(1, 33), 90);
            Check.due("28: of " + changes + ", is undone", x.undo(), 0);
        }
    }

    /** Promise 28: "each method that is a change": undo(), save() and texts are none, nor is a look. */
    private static void undoRecordsNothing() {
        JettyHoses x = still(100, 0, 0, 0);
        x.connect(0, 0);
        x.undo();
        x.undo();
        Check.due("28: undo() is no change", x.count(19), 4);
        x.save(0);
        x.save(1);
        x.put('.');
        x.put('1');
        x.fault();
        x.wipe();
        Check.picture(x);
        x.tide(5);
        x.untilFloats();
        x.untilEmpty();
        x.ifPassed(9, 0);
        Check.due("28: nor are those", x.count(19), 4);
        Check.due("28: the next", x.undo(), 3);
        Check.due("28: the tanker waits again", x.count(9), 1);
    }

    /** Promise 28: "records the state before it (also if nothing is different then)". */
    private static void undoOfWhatMadeNoDifference() {
        JettyHoses x = new JettyHoses();
        x.save(0);
        x.set(JettyHoses.DEPTH, 90);
        x.reach(2, 90);
        x.restore(0);
        Check.write(x, "0-");
        x.run();
        Check.due("28: four", x.count(19), 4);
        int[] before = Check.picture(x);
        for (int left = 3; left >= 0; left--) {
            Check.due("28: undo()", x.undo(), left);
            Check.duePicture("28: no difference", x, before);
        }
    }

    /** Promise 28: "everything except the pad, the slots and the history is as it was before it." */
    private static void undoKeepsPadAndSlots() {
        JettyHoses x = new JettyHoses();
        x.pass(1);
        x.save(0);
        Check.write(x, ".5;+a1");
        x.pass(2);
        x.undo();
        x.undo();
        Check.due("28: the pad", x.count(18), 6);
        Check.due("28: it can be run", x.run(), 2);
        Check.due("28: hour 5", x.count(6), 5);
        x.undo();
        Check.due("28: what was run is not in the pad again", x.count(18), 0);
        Check.due("28: the slot", x.restore(0), 1);
    }

    /** Promise 29: "Returns the hour", also at both ends. */
    private static void saveAtEachHour() {
        JettyHoses x = new JettyHoses();
        Check.due("29: hour 0", x.save(0), 0);
        x = atHour(9999);
        Check.due("29: hour 9999", x.save(1), 9999);
        Check.due("30: hour 9999", x.restore(1), 9999);
        Check.due("30: nothing in the other", x.restore(0), NOT_POSSIBLE);
    }

    /** Promise 29: "and overwrites what was saved there." */
    private static void saveOverwrites() {
        JettyHoses x = still(400, 0, 0, 0);
        x.save(0);
        x.save(1);
        x.leave();
        x.boom(false);
        x.set(JettyHoses.PRICE, 77);
        x.reach(3, 44);
        x.pass(3);
        int[] saved = Check.picture(x);
        Check.due("29: over it", x.save(0), 3);
        Check.due("30: the other is as it was", x.restore(1), 0);
        Check.due("30: its tanker", x.tanker(0, 0), 400);
        Check.due("30: what was saved last", x.restore(0), 3);
        Check.duePicture("30: what was saved last", x, saved);
    }

    /** Promise 30: "Restores what was saved last in a slot, which keeps it." */
    private static void restoreKeepsTheSlot() {
        JettyHoses x = still(400, 0, 0, 0);
        x.connect(0, 0);
        x.pass(4);
        int[] saved = Check.picture(x);
        x.save(1);
        for (int i = 0; i < 3; i++) {
            x.pass(48);
            x.disconnect(0);
            x.leave();
            x.draw(0, 40);
            Check.due("30: the hour then", x.restore(1), 4);
            Check.duePicture("30: all of it", x, saved);
        }
    }

    /** Promises 29 and 30: "everything except the pad, the history and the slots"; "This is a change." */
    private static void restoreKeepsPadAndHistory() {
        JettyHoses x = new JettyHoses();
        Check.write(x, ".1");
        x.save(0);
        x.wipe();
        Check.write(x, ".2;.3");
        x.pass(7);
        x.save(1);
        x.restore(0);
        Check.due("30: the pad of now", x.count(18), 5);
        Check.due("30: one more change", x.count(19), 2);
        Check.due("30: the other slot", x.restore(1), 7);
        Check.due("30: undone", x.undo(), 2);
        Check.due("30: hour 0", x.count(6), 0);
        Check.due("30: undone, too", x.undo(), 1);
        Check.due("30: hour 7", x.count(6), 7);
        Check.due("30: and the first change", x.undo(), 0);
        Check.due("30: the first hour", x.count(6), 0);
    }
}
