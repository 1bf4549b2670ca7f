import java.util.Random;

/**
 * Every method of the program against the document's second form in Model, by random calls with fixed seeds: each answer must
 * be the same. An object gets no more than the 512 calls of the document, but in every eighth run, in which all that can be
 * asked is asked behind each call (this program does not count them).
 */
public final class ModelTest {
    private static final int RUNS = 1200, CALLS = 420;
    private static final int[] EDGES = {
        -1, 0, 1, 2, 3, 4, 5, 6, 19, 20, 47, 48, 49, 50, 120, 121, 150, 151, 200, 201, 400, 401, 1000, 1001, 9999, 10000,
        JettyHoses.NO_SUCH, JettyHoses.NONE, Integer.MIN_VALUE, Integer.MAX_VALUE,
    };
    private static final String[] STARTS = {"+", "+a", "+b", ".", "0", "1", "2", "3", "0=", "3=", ";", "a1", "c400", "d9", "=b", "-", "~", "48", "7"};

    private final Random random;
    private final JettyHoses x = new JettyHoses();
    private final Model y = new Model();
    private final String where;
    /** How many of a hundred calls take arguments that are mostly refused. */
    private final int wild;
    private final boolean isRich;
    private final boolean isLate;
    private int call = 0;

    private ModelTest(int run) {
        random = new Random(77000 + run);
        where = "run " + run;
        wild = new int[] {2, 5, 20, 60}[run % 4];
        isRich = random.nextBoolean();
        isLate = of(8) == 0;
    }

    public static void main(String[] args) {
        for (int run = 0; run < RUNS; run++) {
            ModelTest test = new ModelTest(run);
            test.settle();
            while (test.call < CALLS) {
                test.anyCall();
                if (run % 8 == 0) {
                    test.duePicture();
                }
            }
        }
        Check.end("ModelTest");
    }

    private void due(String text, int got, int want) {
        call++;
        Check.due(where + ", call " + call + ": " + text, got, want);
    }

    private int of(int bound) {
        return random.nextInt(bound);
    }

    private int from(int least, int most) {
        if (of(100) < wild) {
            return EDGES[of(EDGES.length)];
        }
        return of(8) == 0 ? (random.nextBoolean() ? least : most) : least + of(most - least + 1);
    }

    // ---- calls

    /** Half of the runs begin with settings by which much can be done, and some shortly ahead of the last hour. */
    private void settle() {
        if (isRich) {
            set(0, 110 + of(41));
            set(1, of(4) == 0 ? 40 : of(32));
            set(3, 20 + of(21));
        }
        for (int i = 0; isLate && i < 207; i++) {
            due("pass(48)", x.pass(48), y.pass(48));
        }
    }

    private void anyCall() {
        int kind = of(100);
        if (isRich && of(12) == 0) {
            fill();
        } else if (kind < 55) {
            change();
        } else if (kind < 68) {
            look();
        } else if (kind < 82) {
            whatIf();
        } else if (kind < 92) {
            text();
        } else {
            history();
        }
    }

    /** Several calls by which the tanks become full, or the boom, which random calls alone seldom bring about. */
    private void fill() {
        int grade = of(2);
        int hose = of(4);
        boom(true);
        if (of(2) == 0) {
            leave();
            due("arrive(400, 400, 9, 0)", x.arrive(400, 400, 9, 0), y.arrive(400, 400, 9, 0));
            due("berth()", x.berth(), y.berth());
            connect(hose, grade);
            connect((hose + 1) % 4, grade);
            return;
        }
        for (int i = 0; i < 3; i++) {
            due("mend(" + hose + ")", x.mend(hose), y.mend(hose));
            reachTo(hose, 120);
            connect(hose, grade);
            reachTo(hose, 20);
            due("pass(1)", x.pass(1), y.pass(1));
        }
        reachTo(hose, 120);
    }

    private void set(int setting, int value) {
        due("set(" + setting + ", " + value + ")", x.set(setting, value), y.set(setting, value));
    }

    private void change() {
        int hose = from(0, 3);
        int grade = from(0, 3);
        switch (of(20)) {
            case 0: setAny(); break;
            case 1: case 2: arrive(); break;
            case 3: case 4: due("berth()", x.berth(), y.berth()); break;
            case 5: leave(); break;
            case 6: case 7: reachTo(hose, of(3) == 0 ? from(20, 120) : from(45, 100)); break;
            case 8: case 9: case 10: case 11: connect(hose, grade); break;
            case 12: due("disconnect(" + hose + ")", x.disconnect(hose), y.disconnect(hose)); break;
            case 13: due("flush(" + hose + ")", x.flush(hose), y.flush(hose)); break;
            case 14: due("mend(" + hose + ")", x.mend(hose), y.mend(hose)); break;
            case 15: boom(of(4) != 0); break;
            case 16: draw(grade); break;
            default: pass(); break;
        }
    }

    private void setAny() {
        int[] least = {50, 0, 0, 1, 0, 1};
        int[] most = {150, 40, 20, 40, 99, 99};
        int setting = from(0, 5);
        boolean isOne = setting >= 0 && setting < 6;
        set(setting, isOne ? from(least[setting], most[setting]) : from(0, 99));
    }

    private void arrive() {
        int a = load();
        int b = load();
        int c = load();
        int d = load();
        due("arrive(" + a + ", " + b + ", " + c + ", " + d + ")", x.arrive(a, b, c, d), y.arrive(a, b, c, d));
    }

    private int load() {
        return of(3) == 0 ? 0 : from(0, of(4) == 0 ? 12 : 400);
    }

    /** A tanker with which a hose is connected cannot leave: often the hoses are taken off first. */
    private void leave() {
        for (int hose = 0; hose < 4 && of(8) != 0; hose++) {
            due("disconnect(" + hose + ")", x.disconnect(hose), y.disconnect(hose));
        }
        due("leave()", x.leave(), y.leave());
    }

    private void connect(int hose, int grade) {
        due("connect(" + hose + ", " + grade + ")", x.connect(hose, grade), y.connect(hose, grade));
    }

    private void reachTo(int hose, int reach) {
        due("reach(" + hose + ", " + reach + ")", x.reach(hose, reach), y.reach(hose, reach));
    }

    private void boom(boolean isLaid) {
        due("boom(" + isLaid + ")", x.boom(isLaid), y.boom(isLaid));
    }

    private void draw(int grade) {
        int units = from(1, of(2) == 0 ? 40 : 1000);
        due("draw(" + grade + ", " + units + ")", x.draw(grade, units), y.draw(grade, units));
    }

    private void pass() {
        int hours = of(40) == 0 ? from(1, 48) : from(1, 6);
        due("pass(" + hours + ")", x.pass(hours), y.pass(hours));
    }

    private void look() {
        int first = from(0, 5);
        int what = from(0, 7);
        int number = from(0, 19);
        int hour = of(2) == 0 ? from(0, 9999) : random.nextInt();
        switch (of(5)) {
            case 0: due("tanker(" + first + ", " + what + ")", x.tanker(first, what), y.tanker(first, what)); break;
            case 1: due("hose(" + first + ", " + what + ")", x.hose(first, what), y.hose(first, what)); break;
            case 2: due("grade(" + first + ", " + what + ")", x.grade(first, what), y.grade(first, what)); break;
            case 3: due("count(" + number + ")", x.count(number), y.count(number)); break;
            default: due("tide(" + hour + ")", x.tide(hour), y.tide(hour)); break;
        }
    }

    private void whatIf() {
        int hose = from(0, 3);
        int hours = from(1, of(2) == 0 ? 20 : 200);
        int what = from(0, 3);
        switch (of(6)) {
            case 0: due("untilFloats()", x.untilFloats(), y.untilFloats()); break;
            case 1: due("safeFor(" + hose + ")", x.safeFor(hose), y.safeFor(hose)); break;
            case 2: due("untilEmpty()", x.untilEmpty(), y.untilEmpty()); break;
            case 3: due("leastReach(" + hose + ")", x.leastReach(hose), y.leastReach(hose)); break;
            default: due("ifPassed(" + hours + ", " + what + ")", x.ifPassed(hours, what), y.ifPassed(hours, what)); break;
        }
    }

    // ---- texts

    private void text() {
        switch (of(8)) {
            case 0: due("fault()", x.fault(), y.fault()); break;
            case 1: put(of(8) == 0 ? random.nextLong() : Check.packed(STARTS[of(STARTS.length)])); break;
            case 2: put(anyCodes()); break;
            case 3: run(); break;
            case 4: due("wipe()", x.wipe(), y.wipe()); break;
            default: putOrders(1 + of(4)); break;
        }
    }

    /** Up to eight codes from 33 to 126, and now and then one beside them. */
    private long anyCodes() {
        int[] beside = {0, 1, 32, 127, 128, 255};
        long codes = 0;
        for (int left = 1 + of(8); left > 0; left--) {
            codes = codes << 8 | (of(20) == 0 ? beside[of(beside.length)] : of(5) == 0 ? 33 + 93 * of(2) : 33 + of(94));
        }
        return codes;
    }

    private void put(long characters) {
        due("put(" + characters + ")", x.put(characters), y.put(characters));
    }

    private void run() {
        due("fault()", x.fault(), y.fault());
        due("run()", x.run(), y.run());
    }

    /** Puts orders behind what is there, with a ';' if there is something; most of the time they are run then. */
    private void putOrders(int orders) {
        StringBuilder text = new StringBuilder(x.count(18) == 0 ? "" : ";");
        for (int i = 0; i < orders; i++) {
            text.append(i == 0 ? "" : ";").append(order());
        }
        for (int at = 0; at < text.length(); ) {
            int length = Math.min(1 + of(8), text.length() - at);
            put(Check.packed(text.substring(at, at + length)));
            at += length;
        }
        if (of(4) != 0) {
            run();
        }
    }

    private String order() {
        int hose = of(4);
        switch (of(6)) {
            case 0: return "." + from(1, of(3) == 0 ? 48 : 4);
            case 1: return hose + "-";
            case 2: return hose + "~";
            case 3:
                StringBuilder text = new StringBuilder("+");
                for (char grade = 'a'; grade <= 'd'; grade++) {
                    text.append(of(2) == 0 ? "" : grade + "" + from(1, 400));
                }
                return text.toString();
            default: return hose + "=" + (char) ('a' + of(of(100) < wild ? 5 : 4));
        }
    }

    // ---- undo, saving

    private void history() {
        int slot = from(0, 1);
        switch (of(4)) {
            case 0: due("save(" + slot + ")", x.save(slot), y.save(slot)); break;
            case 1: due("restore(" + slot + ")", x.restore(slot), y.restore(slot)); break;
            default: due("undo()", x.undo(), y.undo()); break;
        }
    }

    private void duePicture() {
        String behind = where + ", behind call " + call + ": ";
        for (int what = 0; what < 20; what++) {
            Check.due(behind + "count(" + what + ")", x.count(what), y.count(what));
        }
        for (int i = 0; i < 6 * 8; i++) {
            Check.due(behind + "tanker(" + i / 8 + ", " + i % 8 + ")", x.tanker(i / 8, i % 8), y.tanker(i / 8, i % 8));
        }
        for (int i = 0; i < 4 * 6; i++) {
            Check.due(behind + "hose(" + i / 6 + ", " + i % 6 + ")", x.hose(i / 6, i % 6), y.hose(i / 6, i % 6));
        }
        for (int i = 0; i < 4 * 4; i++) {
            Check.due(behind + "grade(" + i / 4 + ", " + i % 4 + ")", x.grade(i / 4, i % 4), y.grade(i / 4, i % 4));
        }
        Check.due(behind + "fault()", x.fault(), y.fault());
    }
}
