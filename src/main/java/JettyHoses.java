/**
 * Hoses of a jetty by fuel grade, spill boom and tanker tide.
 *
 * <p>What each method promises stands in ../shared/DOC.md. A call that answers an error code changes nothing.
 */
public final class JettyHoses {
    public static final int NO_SUCH = -100001, BAD_VALUE = -100002, BAD_TEXT = -100003, TOO_MANY = -100004, NOT_POSSIBLE = -100005, NONE = -100006;
    public static final int DEPTH = 0, AMPLITUDE = 1, KEEL = 2, RATE = 3, LAY = 4, PRICE = 5;

    private static final int GRADES = 4;
    private static final int HOSES = 4;
    private static final int BERTH = 0;
    private static final int MOST_WAITING = 5;
    private static final int MOST_UNITS = 400;
    private static final int MOST_STORED = 1000;
    private static final int MOST_HELD = 200;
    private static final int MOST_TIDE_CHANGE = 15;
    private static final int FLUSHED = 5;
    private static final int EMPTY_DRAUGHT = 40;
    private static final int UNITS_A_DECIMETRE = 20;
    private static final int HEIGHT = 100;
    private static final int LEAST_REACH = 20;
    private static final int MOST_REACH = 120;
    private static final int FIRST_REACH = 90;
    private static final int MOST_PASSED = 48;
    private static final int LAST_HOUR = 9999;
    private static final int FORESEEN = 200;
    private static final int TIDE_HOURS = 12;
    private static final int MOST_CHARACTERS = 60;
    private static final int FIRST_CODE = 33;
    private static final int LAST_CODE = 126;
    private static final int HISTORY = 6;
    private static final int SLOTS = 2;

    private static final int[] LEAST_SETTING = {50, 0, 0, 1, 0, 1};
    private static final int[] MOST_SETTING = {150, 40, 20, 40, 99, 99};
    private static final int[] FIRST_SETTING = {90, 20, 5, 10, 24, 5};
    private static final int[] TIDE_TENTHS = {0, 5, 9, 10, 9, 5, 0, -5, -9, -10, -9, -5};

    private final Jetty now = new Jetty();
    private final Jetty trial = new Jetty();
    private final Pad pad = new Pad();
    private final Jetty[] history = new Jetty[HISTORY];
    private int undoable = 0;
    private Jetty spare = new Jetty();
    private final Jetty[] slots = new Jetty[SLOTS];
    private final boolean[] isSaved = new boolean[SLOTS];

    public JettyHoses() {
        for (int i = 0; i < HISTORY; i++) {
            history[i] = new Jetty();
        }
        for (int i = 0; i < SLOTS; i++) {
            slots[i] = new Jetty();
        }
    }

    // ---- changes

    public int set(int setting, int value) {
        keepPresent();
        return recorded(now.changeSetting(setting, value));
    }

    public int arrive(int a, int b, int c, int d) {
        keepPresent();
        return recorded(now.letArrive(a, b, c, d));
    }

    public int berth() {
        keepPresent();
        return recorded(now.letBerth());
    }

    public int leave() {
        keepPresent();
        return recorded(now.letLeave());
    }

    public int reach(int hose, int reach) {
        keepPresent();
        return recorded(now.changeReach(hose, reach));
    }

    public int connect(int hose, int grade) {
        keepPresent();
        return recorded(now.connectHose(hose, grade));
    }

    public int disconnect(int hose) {
        keepPresent();
        return recorded(now.disconnectHose(hose));
    }

    public int flush(int hose) {
        keepPresent();
        return recorded(now.flushHose(hose));
    }

    public int mend(int hose) {
        keepPresent();
        return recorded(now.mendHose(hose));
    }

    public int boom(boolean isLaid) {
        keepPresent();
        return recorded(now.changeBoom(isLaid));
    }

    public int draw(int grade, int units) {
        keepPresent();
        return recorded(now.drawUnits(grade, units));
    }

    public int pass(int hours) {
        keepPresent();
        return recorded(now.letPass(hours));
    }

    public int run() {
        if (pad.firstFault() != NONE) {
            return BAD_TEXT;
        }
        keepPresent();
        int done = 0;
        pad.at = 0;
        // There are no more orders than characters; without a fault, each ends at a ';' or at the end of the text.
        for (int i = 0; i < MOST_CHARACTERS && pad.at < pad.length; i++) {
            pad.readOrder();
            if (!isError(doOrder())) {
                done++;
            }
            pad.at++;
        }
        pad.length = 0;
        return recorded(done);
    }

    // ---- what there is; nothing changes

    public int tanker(int place, int what) {
        return now.aboutTanker(place, what);
    }

    public int hose(int hose, int what) {
        return now.aboutHose(hose, what);
    }

    public int grade(int grade, int what) {
        return now.aboutGrade(grade, what);
    }

    public int count(int what) {
        if (what == 18) {
            return pad.length;
        }
        if (what == 19) {
            return undoable;
        }
        return now.number(what);
    }

    public int tide(int hour) {
        return hour < 0 ? BAD_VALUE : now.tideAt(hour);
    }

    // ---- what if; nothing changes

    public int untilFloats() {
        if (now.waiting == 0) {
            return NOT_POSSIBLE;
        }
        int draught = now.tankers[BERTH + 1].draught();
        for (int hours = 0; hours <= TIDE_HOURS; hours++) {
            if (now.floatsAt(draught, now.hour + hours)) {
                return hours;
            }
        }
        return NONE;
    }

    public int safeFor(int hose) {
        if (!isHose(hose)) {
            return NO_SUCH;
        }
        if (!now.hoses[hose].isConnected()) {
            return NOT_POSSIBLE;
        }
        trial.copyFrom(now);
        for (int safe = 0; safe < FORESEEN; safe++) {
            trial.nextHour();
            if (trial.hoses[hose].isBurst) {
                return safe;
            }
        }
        return NONE;
    }

    public int untilEmpty() {
        if (!now.isBerthTaken) {
            return NOT_POSSIBLE;
        }
        trial.copyFrom(now);
        for (int hours = 0; hours < FORESEEN; hours++) {
            if (trial.tankers[BERTH].allUnits() == 0) {
                return hours;
            }
            trial.nextHour();
        }
        return trial.tankers[BERTH].allUnits() == 0 ? FORESEEN : NONE;
    }

    public int ifPassed(int hours, int what) {
        if (hours < 1 || hours > FORESEEN || what < 0 || what > 3) {
            return BAD_VALUE;
        }
        trial.copyFrom(now);
        int stored = 0;
        for (int i = 0; i < hours; i++) {
            stored += trial.nextHour();
        }
        switch (what) {
            case 0: return stored;
            case 1: return trial.lost - now.lost;
            case 2: return trial.allSpoilt() - now.allSpoilt();
            default: return trial.demurrage - now.demurrage;
        }
    }

    public int leastReach(int hose) {
        if (!isHose(hose)) {
            return NO_SUCH;
        }
        if (!now.hoses[hose].isConnected()) {
            return NOT_POSSIBLE;
        }
        trial.copyFrom(now);
        Hose stretched = trial.hoses[hose];
        stretched.isStretching = true;
        stretched.reach = LEAST_REACH;
        for (int i = 0; i < FORESEEN; i++) {
            trial.nextHour();
        }
        return stretched.reach > MOST_REACH ? NONE : stretched.reach;
    }

    // ---- texts

    public int put(long characters) {
        return pad.append(characters);
    }

    public int wipe() {
        int length = pad.length;
        pad.length = 0;
        return length;
    }

    public int fault() {
        return pad.firstFault();
    }

    // ---- undo, saving

    public int undo() {
        if (undoable <= 0 || undoable > HISTORY) {
            return NOT_POSSIBLE;
        }
        undoable--;
        now.copyFrom(history[undoable]);
        return undoable;
    }

    public int save(int slot) {
        if (!isSlot(slot)) {
            return BAD_VALUE;
        }
        slots[slot].copyFrom(now);
        isSaved[slot] = true;
        return now.hour;
    }

    public int restore(int slot) {
        if (!isSlot(slot)) {
            return BAD_VALUE;
        }
        if (!isSaved[slot]) {
            return NOT_POSSIBLE;
        }
        keepPresent();
        now.copyFrom(slots[slot]);
        return recorded(now.hour);
    }

    // ---- the history

    private void keepPresent() {
        spare.copyFrom(now);
    }

    /** Records the state that keepPresent kept, unless the answer is an error; returns the answer. */
    private int recorded(int answer) {
        if (!isError(answer)) {
            recordKept();
        }
        return answer;
    }

    private void recordKept() {
        if (undoable == HISTORY) {
            dropOldest();
        }
        if (undoable < 0 || undoable >= HISTORY) {
            return;
        }
        // The two change places, so that no state is made anew.
        Jetty unused = history[undoable];
        history[undoable] = spare;
        spare = unused;
        undoable++;
    }

    private void dropOldest() {
        Jetty oldest = history[0];
        for (int i = 1; i < HISTORY; i++) {
            history[i - 1] = history[i];
        }
        history[HISTORY - 1] = oldest;
        undoable = HISTORY - 1;
    }

    /** Does the order that the pad read last, without a record of its own. */
    private int doOrder() {
        switch (pad.order) {
            case '+': return now.letArrive(pad.units[0], pad.units[1], pad.units[2], pad.units[3]);
            case '=': return now.connectHose(pad.hose, pad.grade);
            case '-': return now.disconnectHose(pad.hose);
            case '~': return now.flushHose(pad.hose);
            case '.': return now.letPass(pad.hours);
            default: return BAD_TEXT;
        }
    }

    // ---- what is in its range

    private static boolean isError(int answer) {
        return answer <= NO_SUCH && answer >= NOT_POSSIBLE;
    }

    private static boolean isHose(int hose) {
        return hose >= 0 && hose < HOSES;
    }

    private static boolean isGrade(int grade) {
        return grade >= 0 && grade < GRADES;
    }

    private static boolean isSlot(int slot) {
        return slot >= 0 && slot < SLOTS;
    }

    /** A tanker; also the empty place of one. */
    private static final class Tanker {
        final int[] units = new int[GRADES];
        int came = 0;

        void copyFrom(Tanker other) {
            System.arraycopy(other.units, 0, units, 0, GRADES);
            came = other.came;
        }

        int allUnits() {
            int sum = 0;
            for (int i = 0; i < GRADES; i++) {
                sum += units[i];
            }
            return sum;
        }

        int draught() {
            return EMPTY_DRAUGHT + allUnits() / UNITS_A_DECIMETRE;
        }
    }

    private static final class Hose {
        int reach = FIRST_REACH;
        int last = NONE;
        int connected = NONE;
        boolean isBurst = false;
        int moved = 0;
        int spoilt = 0;
        /** True in a trial alone: the hose takes the reach that it needs, and does not burst. */
        boolean isStretching = false;

        void copyFrom(Hose other) {
            reach = other.reach;
            last = other.last;
            connected = other.connected;
            isBurst = other.isBurst;
            moved = other.moved;
            spoilt = other.spoilt;
            isStretching = other.isStretching;
        }

        boolean isConnected() {
            return isGrade(connected);
        }

        boolean hasOtherLast() {
            return last != NONE && last != connected;
        }
    }

    /** Everything that undo and the slots bring back. */
    private static final class Jetty {
        final int[] settings = FIRST_SETTING.clone();
        final int[] stored = new int[GRADES];
        final int[] spoilt = new int[GRADES];
        final int[] spilt = new int[GRADES];
        final Hose[] hoses = new Hose[HOSES];
        /** The place at the berth, then those that wait; places without a tanker are kept to be used again. */
        final Tanker[] tankers = new Tanker[1 + MOST_WAITING];
        boolean isBerthTaken = false;
        int waiting = 0;
        int hour = 0;
        boolean isBoomLaid = false;
        int held = 0;
        int lost = 0;
        int caught = 0;
        int demurrage = 0;

        Jetty() {
            for (int i = 0; i < HOSES; i++) {
                hoses[i] = new Hose();
            }
            for (int i = 0; i < tankers.length; i++) {
                tankers[i] = new Tanker();
            }
        }

        void copyFrom(Jetty other) {
            System.arraycopy(other.settings, 0, settings, 0, settings.length);
            System.arraycopy(other.stored, 0, stored, 0, GRADES);
            System.arraycopy(other.spoilt, 0, spoilt, 0, GRADES);
            System.arraycopy(other.spilt, 0, spilt, 0, GRADES);
            for (int i = 0; i < HOSES; i++) {
                hoses[i].copyFrom(other.hoses[i]);
            }
            for (int i = 0; i < tankers.length; i++) {
                tankers[i].copyFrom(other.tankers[i]);
            }
            isBerthTaken = other.isBerthTaken;
            waiting = other.waiting;
            hour = other.hour;
            isBoomLaid = other.isBoomLaid;
            held = other.held;
            lost = other.lost;
            caught = other.caught;
            demurrage = other.demurrage;
        }

        // ---- the tide, and a draught by it

        int tideAt(int anHour) {
            return settings[AMPLITUDE] * TIDE_TENTHS[Math.floorMod(anHour, TIDE_HOURS)] / 10;
        }

        int heightAt(int draught, int anHour) {
            return HEIGHT + tideAt(anHour) - draught;
        }

        boolean floatsAt(int draught, int anHour) {
            return settings[DEPTH] + tideAt(anHour) >= draught + settings[KEEL];
        }

        boolean isTankerAt(int place) {
            return place == BERTH ? isBerthTaken : place > BERTH && place <= waiting && place < tankers.length;
        }

        // ---- changes

        int changeSetting(int setting, int value) {
            if (setting < 0 || setting >= settings.length) {
                return BAD_VALUE;
            }
            if (value < LEAST_SETTING[setting] || value > MOST_SETTING[setting]) {
                return BAD_VALUE;
            }
            int previous = settings[setting];
            settings[setting] = value;
            return previous;
        }

        int letArrive(int a, int b, int c, int d) {
            if (!isLoad(a) || !isLoad(b) || !isLoad(c) || !isLoad(d) || a + b + c + d == 0) {
                return BAD_VALUE;
            }
            if (waiting < 0 || waiting >= MOST_WAITING) {
                return TOO_MANY;
            }
            waiting++;
            Tanker last = tankers[BERTH + waiting];
            last.units[0] = a;
            last.units[1] = b;
            last.units[2] = c;
            last.units[3] = d;
            last.came = hour;
            return waiting;
        }

        private static boolean isLoad(int units) {
            return units >= 0 && units <= MOST_UNITS;
        }

        int letBerth() {
            if (waiting == 0 || isBerthTaken || !floatsAt(tankers[BERTH + 1].draught(), hour)) {
                return NOT_POSSIBLE;
            }
            Tanker unused = tankers[BERTH];
            for (int i = 1; i < tankers.length; i++) {
                tankers[i - 1] = tankers[i];
            }
            tankers[tankers.length - 1] = unused;
            waiting--;
            isBerthTaken = true;
            return tankers[BERTH].allUnits();
        }

        int letLeave() {
            if (!isBerthTaken || !floatsAt(tankers[BERTH].draught(), hour) || connectedHoses() > 0) {
                return NOT_POSSIBLE;
            }
            isBerthTaken = false;
            return tankers[BERTH].allUnits();
        }

        int changeReach(int hose, int reach) {
            if (!isHose(hose)) {
                return NO_SUCH;
            }
            if (reach < LEAST_REACH || reach > MOST_REACH) {
                return BAD_VALUE;
            }
            int previous = hoses[hose].reach;
            hoses[hose].reach = reach;
            return previous;
        }

        int connectHose(int number, int grade) {
            if (!isHose(number) || !isGrade(grade)) {
                return NO_SUCH;
            }
            Hose hose = hoses[number];
            if (!isBerthTaken || hose.isBurst || hose.isConnected()) {
                return NOT_POSSIBLE;
            }
            if (heightAt(tankers[BERTH].draught(), hour) > hose.reach) {
                return NOT_POSSIBLE;
            }
            hose.connected = grade;
            return connectedHoses();
        }

        int disconnectHose(int number) {
            if (!isHose(number)) {
                return NO_SUCH;
            }
            Hose hose = hoses[number];
            if (!hose.isConnected()) {
                return NOT_POSSIBLE;
            }
            int grade = hose.connected;
            hose.connected = NONE;
            return grade;
        }

        int flushHose(int number) {
            if (!isHose(number)) {
                return NO_SUCH;
            }
            Hose hose = hoses[number];
            int grade = hose.last;
            if (hose.isConnected() || !isGrade(grade)) {
                return NOT_POSSIBLE;
            }
            int units = Math.min(FLUSHED, stored[grade]);
            stored[grade] -= units;
            spoilt[grade] += units;
            hose.last = NONE;
            return units;
        }

        int mendHose(int number) {
            if (!isHose(number)) {
                return NO_SUCH;
            }
            Hose hose = hoses[number];
            if (!hose.isBurst) {
                return NOT_POSSIBLE;
            }
            hose.isBurst = false;
            hose.last = NONE;
            return burstHoses();
        }

        int changeBoom(boolean isLaid) {
            if (isBoomLaid == isLaid) {
                return NOT_POSSIBLE;
            }
            int units = held;
            isBoomLaid = isLaid;
            caught += units;
            held = 0;
            return units;
        }

        int drawUnits(int grade, int units) {
            if (!isGrade(grade)) {
                return NO_SUCH;
            }
            if (units < 1 || units > MOST_STORED) {
                return BAD_VALUE;
            }
            if (units > stored[grade]) {
                return NOT_POSSIBLE;
            }
            stored[grade] -= units;
            return stored[grade];
        }

        int letPass(int hours) {
            if (hours < 1 || hours > MOST_PASSED) {
                return BAD_VALUE;
            }
            if (hour + hours > LAST_HOUR) {
                return TOO_MANY;
            }
            int units = 0;
            for (int i = 0; i < hours; i++) {
                units += nextHour();
            }
            return units;
        }

        // ---- an hour

        /** Returns how many units came into tanks. */
        int nextHour() {
            hour++;
            tearBoom();
            burstShortHoses();
            int units = moveUnits();
            demurrage += lateTankers() * settings[PRICE];
            return units;
        }

        void tearBoom() {
            int change = Math.abs(tideAt(hour) - tideAt(hour - 1));
            if (!isBoomLaid || change <= MOST_TIDE_CHANGE) {
                return;
            }
            isBoomLaid = false;
            lost += held;
            held = 0;
        }

        void burstShortHoses() {
            if (!isBerthTaken) {
                return;
            }
            for (int i = 0; i < HOSES; i++) {
                Hose hose = hoses[i];
                // Anew for each hose: what one spills lifts the tanker for the next.
                int height = heightAt(tankers[BERTH].draught(), hour);
                if (!hose.isConnected() || height <= hose.reach) {
                    continue;
                }
                if (hose.isStretching) {
                    hose.reach = height;
                } else {
                    burst(hose);
                }
            }
        }

        void burst(Hose hose) {
            int grade = hose.connected;
            hose.isBurst = true;
            hose.connected = NONE;
            if (!isGrade(grade)) {
                return;
            }
            int[] load = tankers[BERTH].units;
            int units = Math.min(settings[RATE], load[grade]);
            int intoBoom = isBoomLaid ? Math.min(units, MOST_HELD - held) : 0;
            load[grade] -= units;
            spilt[grade] += units;
            held += intoBoom;
            lost += units - intoBoom;
        }

        int moveUnits() {
            if (!isBerthTaken || !isBoomLaid || !floatsAt(tankers[BERTH].draught(), hour)) {
                return 0;
            }
            int units = 0;
            for (int i = 0; i < HOSES; i++) {
                units += moveThrough(hoses[i]);
            }
            return units;
        }

        /** Returns how many units came into the tank. */
        int moveThrough(Hose hose) {
            int grade = hose.connected;
            if (!isGrade(grade)) {
                return 0;
            }
            int[] load = tankers[BERTH].units;
            int units = Math.min(settings[RATE], Math.min(load[grade], MOST_STORED - stored[grade]));
            if (units <= 0) {
                return 0;
            }
            boolean isSpoilt = hose.hasOtherLast();
            load[grade] -= units;
            hose.last = grade;
            if (isSpoilt) {
                spoilt[grade] += units;
                hose.spoilt += units;
                return 0;
            }
            stored[grade] += units;
            hose.moved += units;
            return units;
        }

        int lateTankers() {
            int late = 0;
            for (int i = 0; i < tankers.length; i++) {
                if (isTankerAt(i) && hour - tankers[i].came > settings[LAY]) {
                    late++;
                }
            }
            return late;
        }

        // ---- what there is

        int connectedHoses() {
            int connected = 0;
            for (int i = 0; i < HOSES; i++) {
                connected += hoses[i].isConnected() ? 1 : 0;
            }
            return connected;
        }

        int burstHoses() {
            int burst = 0;
            for (int i = 0; i < HOSES; i++) {
                burst += hoses[i].isBurst ? 1 : 0;
            }
            return burst;
        }

        int allSpoilt() {
            int sum = 0;
            for (int i = 0; i < GRADES; i++) {
                sum += spoilt[i];
            }
            return sum;
        }

        int unitsInTankers(int grade) {
            int sum = 0;
            for (int i = 0; i < tankers.length; i++) {
                sum += isTankerAt(i) ? tankers[i].units[grade] : 0;
            }
            return sum;
        }

        int aboutTanker(int place, int what) {
            if (what < 0 || what > 7) {
                return BAD_VALUE;
            }
            if (!isTankerAt(place)) {
                return NO_SUCH;
            }
            Tanker tanker = tankers[place];
            switch (what) {
                case 4: return tanker.draught();
                case 5: return heightAt(tanker.draught(), hour);
                case 6: return floatsAt(tanker.draught(), hour) ? 1 : 0;
                case 7: return hour - tanker.came;
                default: return tanker.units[what];
            }
        }

        int aboutHose(int number, int what) {
            if (!isHose(number)) {
                return NO_SUCH;
            }
            Hose hose = hoses[number];
            switch (what) {
                case 0: return hose.reach;
                case 1: return hose.last;
                case 2: return hose.connected;
                case 3: return hose.isBurst ? 1 : 0;
                case 4: return hose.moved;
                case 5: return hose.spoilt;
                default: return BAD_VALUE;
            }
        }

        int aboutGrade(int grade, int what) {
            if (!isGrade(grade)) {
                return NO_SUCH;
            }
            switch (what) {
                case 0: return stored[grade];
                case 1: return unitsInTankers(grade);
                case 2: return spoilt[grade];
                case 3: return spilt[grade];
                default: return BAD_VALUE;
            }
        }

        int number(int what) {
            if (what >= 0 && what < settings.length) {
                return settings[what];
            }
            switch (what) {
                case 6: return hour;
                case 7: return tideAt(hour);
                case 8: return settings[DEPTH] + tideAt(hour);
                case 9: return waiting;
                case 10: return isBerthTaken ? 1 : 0;
                case 11: return connectedHoses();
                case 12: return burstHoses();
                case 13: return isBoomLaid ? 1 : 0;
                case 14: return held;
                case 15: return lost;
                case 16: return caught;
                case 17: return demurrage;
                default: return BAD_VALUE;
            }
        }
    }

    /** The text of the orders, and the order that was read last. */
    private static final class Pad {
        final char[] text = new char[MOST_CHARACTERS];
        int length = 0;
        /** Where the reading stands; if an order has a fault, it stands at the fault. */
        int at = 0;
        /** The sign that tells the order: one of + = - ~ . */
        int order = 0;
        int hose = 0;
        int grade = 0;
        int hours = 0;
        final int[] units = new int[GRADES];

        int append(long characters) {
            int added = charactersIn(characters);
            if (added == 0) {
                return BAD_VALUE;
            }
            if (length + added > MOST_CHARACTERS) {
                return TOO_MANY;
            }
            length += added;
            for (int i = 0; i < added; i++) {
                text[length - 1 - i] = (char) ((characters >>> (8 * i)) & 255);
            }
            return length;
        }

        /** Returns how many characters the number holds; 0 also if one of them is none. */
        private static int charactersIn(long characters) {
            long rest = characters;
            int many = 0;
            // Eight shifts empty a long; a zero below a character is no code, and is refused as one.
            while (rest != 0 && many < 8) {
                long code = rest & 255;
                if (code < FIRST_CODE || code > LAST_CODE) {
                    return 0;
                }
                rest >>>= 8;
                many++;
            }
            return many;
        }

        int firstFault() {
            at = 0;
            // There are no more orders than characters; an empty text has one, which ends too early.
            for (int i = 0; i <= MOST_CHARACTERS; i++) {
                if (!readOrder()) {
                    return at;
                }
                if (at >= length) {
                    return NONE;
                }
                if (next() != ';') {
                    return at;
                }
                at++;
            }
            return length;
        }

        /** Reads one order, from left to right, and so never moves back; false if it has a fault. */
        boolean readOrder() {
            order = next();
            if (order == '+') {
                at++;
                return readUnits();
            }
            if (order == '.') {
                at++;
                hours = readNumber(MOST_PASSED);
                return hours > 0;
            }
            hose = order - '0';
            if (!isHose(hose)) {
                return false;
            }
            at++;
            return readHoseOrder();
        }

        private boolean readHoseOrder() {
            order = next();
            if (order != '=' && order != '-' && order != '~') {
                return false;
            }
            at++;
            if (order != '=') {
                return true;
            }
            grade = next() - 'a';
            if (!isGrade(grade)) {
                return false;
            }
            at++;
            return true;
        }

        /** Grades come in ascending order, so that each of them stands next or is not told. */
        private boolean readUnits() {
            boolean isAny = false;
            for (int i = 0; i < GRADES; i++) {
                units[i] = 0;
                if (next() - 'a' != i) {
                    continue;
                }
                at++;
                units[i] = readNumber(MOST_UNITS);
                if (units[i] == 0) {
                    // The grades behind it are left as they are: an order with a fault is not done.
                    return false;
                }
                isAny = true;
            }
            return isAny;
        }

        /** Returns a number from 1 to most, 0 if there is a fault. */
        private int readNumber(int most) {
            int number = 0;
            for (; at < length; at++) {
                int digit = next() - '0';
                if (digit < 0 || digit > 9) {
                    break;
                }
                int longer = 10 * number + digit;
                if (longer == 0 || longer > most) {
                    return 0;
                }
                number = longer;
            }
            return number;
        }

        /** The character where the reading stands; 0, which no pad holds, at the end. */
        private char next() {
            return at >= 0 && at < length && at < text.length ? text[at] : 0;
        }
    }
}
