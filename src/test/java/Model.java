import java.util.ArrayDeque;
import java.util.ArrayList;
import java.util.Deque;
import java.util.List;
import java.util.regex.Matcher;
import java.util.regex.Pattern;

/**
 * The document a second time, in another form than the program: lists that are copied
 * whole, a pattern for texts, and each what-if by trying it out. ModelTest holds the program against it.
 */
final class Model {
    static final int NO_SUCH = -100001, BAD_VALUE = -100002, BAD_TEXT = -100003, TOO_MANY = -100004, NOT_POSSIBLE = -100005, NONE = -100006;

    private static final int[][] SETTINGS = {{50, 150, 90}, {0, 40, 20}, {0, 20, 5}, {1, 40, 10}, {0, 99, 24}, {1, 99, 5}};

    private static final class Ship {
        int[] units;
        final int came;

        Ship(int[] units, int came) {
            this.units = units.clone();
            this.came = came;
        }

        int load() {
            return units[0] + units[1] + units[2] + units[3];
        }

        int draught() {
            return 40 + load() / 20;
        }
    }

    private static final class Pipe {
        int reach = 90;
        Integer last = null;
        Integer by = null;
        boolean burst = false;
        int moved = 0;
        int spoilt = 0;

        Pipe copy() {
            Pipe other = new Pipe();
            other.reach = reach;
            other.last = last;
            other.by = by;
            other.burst = burst;
            other.moved = moved;
            other.spoilt = spoilt;
            return other;
        }
    }

    /** What undo and the slots bring back. */
    private static final class State {
        int[] settings = new int[6];
        int hour = 0;
        List<Ship> waiting = new ArrayList<>();
        Ship berthed = null;
        List<Pipe> pipes = new ArrayList<>();
        int[] tank = new int[4];
        int[] spoilt = new int[4];
        int[] spilt = new int[4];
        boolean laid = false;
        int held = 0;
        int sea = 0;
        int caught = 0;
        int demurrage = 0;

        State copy() {
            State other = new State();
            other.settings = settings.clone();
            other.hour = hour;
            for (Ship ship : waiting) {
                other.waiting.add(new Ship(ship.units, ship.came));
            }
            other.berthed = berthed == null ? null : new Ship(berthed.units, berthed.came);
            for (Pipe pipe : pipes) {
                other.pipes.add(pipe.copy());
            }
            other.tank = tank.clone();
            other.spoilt = spoilt.clone();
            other.spilt = spilt.clone();
            other.laid = laid;
            other.held = held;
            other.sea = sea;
            other.caught = caught;
            other.demurrage = demurrage;
            return other;
        }

        int tide(int at) {
            int[] t = {0, 5, 9, 10, 9, 5, 0, -5, -9, -10, -9, -5};
            return settings[1] * t[at % 12] / 10;
        }

        int height(Ship ship) {
            return 100 + tide(hour) - ship.draught();
        }

        boolean floats(Ship ship, int at) {
            return settings[0] + tide(at) >= ship.draught() + settings[2];
        }

        int connected() {
            return (int) pipes.stream().filter(pipe -> pipe.by != null).count();
        }

        int burst() {
            return (int) pipes.stream().filter(pipe -> pipe.burst).count();
        }

        /** One hour, its four steps one after the other; returns what came into tanks. */
        int goOn() {
            hour++;
            int differs = tide(hour) > tide(hour - 1) ? tide(hour) - tide(hour - 1) : tide(hour - 1) - tide(hour);
            if (laid && differs > 15) {
                laid = false;
                sea += held;
                held = 0;
            }
            for (Pipe pipe : pipes) {
                if (pipe.by != null && height(berthed) > pipe.reach) {
                    spill(pipe);
                }
            }
            int stored = 0;
            if (berthed != null && floats(berthed, hour) && laid) {
                for (Pipe pipe : pipes) {
                    stored += pipe.by == null ? 0 : move(pipe);
                }
            }
            for (Ship ship : ships()) {
                if (hour - ship.came > settings[4]) {
                    demurrage += settings[5];
                }
            }
            return stored;
        }

        void spill(Pipe pipe) {
            int grade = pipe.by;
            int units = Math.min(settings[3], berthed.units[grade]);
            berthed.units[grade] -= units;
            spilt[grade] += units;
            int room = laid ? 200 - held : 0;
            held += Math.min(room, units);
            sea += Math.max(units - room, 0);
            pipe.burst = true;
            pipe.by = null;
        }

        int move(Pipe pipe) {
            int grade = pipe.by;
            int units = Math.min(Math.min(settings[3], berthed.units[grade]), 1000 - tank[grade]);
            if (units == 0) {
                return 0;
            }
            berthed.units[grade] -= units;
            boolean spoils = pipe.last != null && pipe.last != grade;
            pipe.last = grade;
            if (spoils) {
                pipe.spoilt += units;
                spoilt[grade] += units;
                return 0;
            }
            pipe.moved += units;
            tank[grade] += units;
            return units;
        }

        List<Ship> ships() {
            List<Ship> all = new ArrayList<>(waiting);
            if (berthed != null) {
                all.add(0, berthed);
            }
            return all;
        }

        int spoiltOfAll() {
            return spoilt[0] + spoilt[1] + spoilt[2] + spoilt[3];
        }
    }

    private State now = new State();
    private String pad = "";
    private final Deque<State> history = new ArrayDeque<>();
    private final State[] slots = new State[2];

    Model() {
        for (int i = 0; i < 6; i++) {
            now.settings[i] = SETTINGS[i][2];
        }
        for (int i = 0; i < 4; i++) {
            now.pipes.add(new Pipe());
        }
    }

    private static boolean isIn(int number, int least, int most) {
        return number >= least && number <= most;
    }

    /** Records what was before a change that is no error. */
    private int changed(State before, int answer) {
        if (answer <= NO_SUCH && answer >= NOT_POSSIBLE) {
            return answer;
        }
        history.addLast(before);
        if (history.size() > 6) {
            history.removeFirst();
        }
        return answer;
    }

    // ---- changes

    int set(int setting, int value) {
        if (!isIn(setting, 0, 5) || !isIn(value, SETTINGS[setting][0], SETTINGS[setting][1])) {
            return BAD_VALUE;
        }
        State before = now.copy();
        now.settings[setting] = value;
        return changed(before, before.settings[setting]);
    }

    int arrive(int a, int b, int c, int d) {
        return changed(now.copy(), come(new int[] {a, b, c, d}));
    }

    private int come(int[] units) {
        boolean any = false;
        for (int many : units) {
            if (!isIn(many, 0, 400)) {
                return BAD_VALUE;
            }
            any |= many > 0;
        }
        if (!any) {
            return BAD_VALUE;
        }
        if (now.waiting.size() == 5) {
            return TOO_MANY;
        }
        now.waiting.add(new Ship(units, now.hour));
        return now.waiting.size();
    }

    int berth() {
        if (now.waiting.isEmpty() || now.berthed != null || !now.floats(now.waiting.get(0), now.hour)) {
            return NOT_POSSIBLE;
        }
        State before = now.copy();
        now.berthed = now.waiting.remove(0);
        return changed(before, now.berthed.load());
    }

    int leave() {
        if (now.berthed == null || !now.floats(now.berthed, now.hour) || now.connected() > 0) {
            return NOT_POSSIBLE;
        }
        State before = now.copy();
        now.berthed = null;
        return changed(before, before.berthed.load());
    }

    int reach(int hose, int reach) {
        if (!isIn(hose, 0, 3)) {
            return NO_SUCH;
        }
        if (!isIn(reach, 20, 120)) {
            return BAD_VALUE;
        }
        State before = now.copy();
        now.pipes.get(hose).reach = reach;
        return changed(before, before.pipes.get(hose).reach);
    }

    int connect(int hose, int grade) {
        return changed(now.copy(), join(hose, grade));
    }

    private int join(int hose, int grade) {
        if (!isIn(hose, 0, 3) || !isIn(grade, 0, 3)) {
            return NO_SUCH;
        }
        Pipe pipe = now.pipes.get(hose);
        if (now.berthed == null || pipe.burst || pipe.by != null || now.height(now.berthed) > pipe.reach) {
            return NOT_POSSIBLE;
        }
        pipe.by = grade;
        return now.connected();
    }

    int disconnect(int hose) {
        return changed(now.copy(), part(hose));
    }

    private int part(int hose) {
        if (!isIn(hose, 0, 3)) {
            return NO_SUCH;
        }
        Integer by = now.pipes.get(hose).by;
        now.pipes.get(hose).by = null;
        return by == null ? NOT_POSSIBLE : by;
    }

    int flush(int hose) {
        return changed(now.copy(), rinse(hose));
    }

    private int rinse(int hose) {
        if (!isIn(hose, 0, 3)) {
            return NO_SUCH;
        }
        Pipe pipe = now.pipes.get(hose);
        if (pipe.by != null || pipe.last == null) {
            return NOT_POSSIBLE;
        }
        int grade = pipe.last;
        int lost = now.tank[grade] < 5 ? now.tank[grade] : 5;
        now.tank[grade] -= lost;
        now.spoilt[grade] += lost;
        pipe.last = null;
        return lost;
    }

    int mend(int hose) {
        if (!isIn(hose, 0, 3)) {
            return NO_SUCH;
        }
        if (!now.pipes.get(hose).burst) {
            return NOT_POSSIBLE;
        }
        State before = now.copy();
        now.pipes.get(hose).burst = false;
        now.pipes.get(hose).last = null;
        return changed(before, now.burst());
    }

    int boom(boolean isLaid) {
        if (now.laid == isLaid) {
            return NOT_POSSIBLE;
        }
        State before = now.copy();
        now.laid = isLaid;
        if (!isLaid) {
            now.caught += now.held;
            now.held = 0;
        }
        return changed(before, before.held);
    }

    int draw(int grade, int units) {
        if (!isIn(grade, 0, 3)) {
            return NO_SUCH;
        }
        if (!isIn(units, 1, 1000)) {
            return BAD_VALUE;
        }
        if (now.tank[grade] < units) {
            return NOT_POSSIBLE;
        }
        State before = now.copy();
        now.tank[grade] -= units;
        return changed(before, now.tank[grade]);
    }

    int pass(int hours) {
        return changed(now.copy(), wait(hours));
    }

    private int wait(int hours) {
        if (!isIn(hours, 1, 48)) {
            return BAD_VALUE;
        }
        if (now.hour + hours > 9999) {
            return TOO_MANY;
        }
        int stored = 0;
        for (int i = 0; i < hours; i++) {
            stored += now.goOn();
        }
        return stored;
    }

    int run() {
        if (fault() != NONE) {
            return BAD_TEXT;
        }
        State before = now.copy();
        int done = 0;
        for (String order : pad.split(";")) {
            int answer = obey(order);
            done += answer <= NO_SUCH && answer >= NOT_POSSIBLE ? 0 : 1;
        }
        pad = "";
        return changed(before, done);
    }

    private int obey(String order) {
        char first = order.charAt(0);
        if (first == '.') {
            return wait(Integer.parseInt(order.substring(1)));
        }
        if (first == '+') {
            int[] units = new int[4];
            Matcher parts = Pattern.compile("([a-d])(\\d+)").matcher(order);
            while (parts.find()) {
                units[parts.group(1).charAt(0) - 'a'] = Integer.parseInt(parts.group(2));
            }
            return come(units);
        }
        int hose = first - '0';
        char sign = order.charAt(1);
        return sign == '=' ? join(hose, order.charAt(2) - 'a') : sign == '-' ? part(hose) : rinse(hose);
    }

    // ---- what there is

    int tanker(int place, int what) {
        if (!isIn(what, 0, 7)) {
            return BAD_VALUE;
        }
        if (place == 0 && now.berthed == null || place < 0 || place > now.waiting.size()) {
            return NO_SUCH;
        }
        Ship ship = place == 0 ? now.berthed : now.waiting.get(place - 1);
        int[] about = {
            ship.units[0], ship.units[1], ship.units[2], ship.units[3],
            ship.draught(), now.height(ship), now.floats(ship, now.hour) ? 1 : 0, now.hour - ship.came,
        };
        return about[what];
    }

    int hose(int hose, int what) {
        if (!isIn(hose, 0, 3)) {
            return NO_SUCH;
        }
        if (!isIn(what, 0, 5)) {
            return BAD_VALUE;
        }
        Pipe pipe = now.pipes.get(hose);
        int[] about = {
            pipe.reach, pipe.last == null ? NONE : pipe.last, pipe.by == null ? NONE : pipe.by, pipe.burst ? 1 : 0, pipe.moved, pipe.spoilt,
        };
        return about[what];
    }

    int grade(int grade, int what) {
        if (!isIn(grade, 0, 3)) {
            return NO_SUCH;
        }
        if (!isIn(what, 0, 3)) {
            return BAD_VALUE;
        }
        int afloat = now.ships().stream().mapToInt(ship -> ship.units[grade]).sum();
        int[] about = {now.tank[grade], afloat, now.spoilt[grade], now.spilt[grade]};
        return about[what];
    }

    int count(int what) {
        if (!isIn(what, 0, 19)) {
            return BAD_VALUE;
        }
        if (what < 6) {
            return now.settings[what];
        }
        int[] about = {
            now.hour, now.tide(now.hour), now.settings[0] + now.tide(now.hour), now.waiting.size(), now.berthed == null ? 0 : 1,
            now.connected(), now.burst(), now.laid ? 1 : 0, now.held, now.sea, now.caught, now.demurrage, pad.length(), history.size(),
        };
        return about[what - 6];
    }

    int tide(int hour) {
        return hour < 0 ? BAD_VALUE : now.tide(hour);
    }

    // ---- what if

    int untilFloats() {
        if (now.waiting.isEmpty()) {
            return NOT_POSSIBLE;
        }
        for (int hours = 0; hours <= 12; hours++) {
            if (now.floats(now.waiting.get(0), now.hour + hours)) {
                return hours;
            }
        }
        return NONE;
    }

    int safeFor(int hose) {
        if (!isIn(hose, 0, 3)) {
            return NO_SUCH;
        }
        return now.pipes.get(hose).by == null ? NOT_POSSIBLE : safe(hose, now.pipes.get(hose).reach);
    }

    private int safe(int hose, int reach) {
        State then = now.copy();
        then.pipes.get(hose).reach = reach;
        for (int hours = 0; hours < 200; hours++) {
            then.goOn();
            if (then.pipes.get(hose).burst) {
                return hours;
            }
        }
        return NONE;
    }

    int leastReach(int hose) {
        if (!isIn(hose, 0, 3)) {
            return NO_SUCH;
        }
        if (now.pipes.get(hose).by == null) {
            return NOT_POSSIBLE;
        }
        for (int reach = 20; reach <= 120; reach++) {
            if (safe(hose, reach) == NONE) {
                return reach;
            }
        }
        return NONE;
    }

    int untilEmpty() {
        if (now.berthed == null) {
            return NOT_POSSIBLE;
        }
        State then = now.copy();
        for (int hours = 0; hours <= 200; hours++) {
            if (then.berthed.load() == 0) {
                return hours;
            }
            then.goOn();
        }
        return NONE;
    }

    int ifPassed(int hours, int what) {
        if (!isIn(hours, 1, 200) || !isIn(what, 0, 3)) {
            return BAD_VALUE;
        }
        State then = now.copy();
        int stored = 0;
        for (int i = 0; i < hours; i++) {
            stored += then.goOn();
        }
        int[] about = {stored, then.sea - now.sea, then.spoiltOfAll() - now.spoiltOfAll(), then.demurrage - now.demurrage};
        return about[what];
    }

    // ---- texts

    int put(long characters) {
        StringBuilder text = new StringBuilder();
        boolean ended = false;
        for (int shift = 56; shift >= 0; shift -= 8) {
            int code = (int) (characters >>> shift) & 255;
            ended |= code != 0;
            if (ended) {
                text.append((char) code);
            }
        }
        if (text.length() == 0 || text.chars().anyMatch(code -> code < 33 || code > 126)) {
            return BAD_VALUE;
        }
        if (pad.length() + text.length() > 60) {
            return TOO_MANY;
        }
        pad += text;
        return pad.length();
    }

    int wipe() {
        int length = pad.length();
        pad = "";
        return length;
    }

    private static final String UNITS = "(?:400|[123]\\d\\d|[1-9]\\d?)";
    private static final String LOAD = "\\+(?=[a-d])(?:a" + UNITS + ")?(?:b" + UNITS + ")?(?:c" + UNITS + ")?(?:d" + UNITS + ")?";
    private static final String ORDER = "(?:" + LOAD + "|[0-3](?:=[a-d]|[-~])|\\.(?:4[0-8]|[123]\\d|[1-9]))";
    private static final Pattern TEXT = Pattern.compile(ORDER + "(?:;" + ORDER + ")*");

    private static boolean isText(String text) {
        return TEXT.matcher(text).matches();
    }

    /** Whether some text begins so: the shortest ways on behind an order that is not ended are these. */
    private static boolean canGoOn(String start) {
        String[] ways = {"", "1", "a", "-", "a1", "b1", "c1", "d1", "0-"};
        for (String way : ways) {
            if (isText(start + way)) {
                return true;
            }
        }
        return false;
    }

    int fault() {
        for (int i = 0; i < pad.length(); i++) {
            if (!canGoOn(pad.substring(0, i + 1))) {
                return i;
            }
        }
        return isText(pad) ? NONE : pad.length();
    }

    // ---- undo, saving

    int undo() {
        if (history.isEmpty()) {
            return NOT_POSSIBLE;
        }
        now = history.removeLast();
        return history.size();
    }

    int save(int slot) {
        if (!isIn(slot, 0, 1)) {
            return BAD_VALUE;
        }
        slots[slot] = now.copy();
        return now.hour;
    }

    int restore(int slot) {
        if (!isIn(slot, 0, 1)) {
            return BAD_VALUE;
        }
        if (slots[slot] == null) {
            return NOT_POSSIBLE;
        }
        State before = now;
        now = slots[slot].copy();
        return changed(before, now.hour);
    }
}
