import java.util.Arrays;
import java.util.Random;
import java.util.regex.Matcher;
import java.util.regex.Pattern;

/**
 * Random calls by fixed seeds. An hour is reckoned a second time from what the looks tell; each what-if is held against the
 * hours that then come; errors must change nothing, and undo must bring back what was. Faults of random texts are held
 * against a regular expression, and orders that are run against the calls for which they stand.
 *
 * <p>The looks are many, so that an object gets more than the 512 calls of the document: this program does not count them.
 */
public final class RandomTest {
    private static final int NONE = JettyHoses.NONE, NOT_POSSIBLE = JettyHoses.NOT_POSSIBLE;
    private static final int TANKERS = 18, HOSES = TANKERS + 48, GRADES = HOSES + 24;
    private static final int RUNS = 150, CALLS = 150;

    public static void main(String[] args) {
        for (int run = 0; run < RUNS; run++) {
            randomRun(run, new Random(1000 + run));
            randomOrders(run, new Random(5000 + run));
        }
        randomTexts(new Random(9000));
        Check.end("RandomTest");
    }

    private static void randomRun(int run, Random random) {
        JettyHoses x = new JettyHoses();
        int[][] history = new int[CALLS + 1][];
        int changes = 0;
        for (int call = 0; call < CALLS; call++) {
            String where = "run " + run + ", call " + call;
            int[] before = Check.picture(x);
            if (random.nextInt(12) == 0) {
                int answer = x.undo();
                Check.due(where + ": undo()", answer, changes == 0 ? NOT_POSSIBLE : changes - 1);
                if (changes > 0) {
                    changes--;
                    Check.duePicture(where + ": undo()", x, history[changes]);
                }
                continue;
            }
            if (random.nextInt(6) == 0) {
                whatIfs(where, x, random);
                Check.duePicture(where + ": what-ifs", x, before);
                Check.due(where + ": what-ifs are undone", x.count(19), changes);
                continue;
            }
            int answer = run % 2 == 0 ? busyChange(where, x, random, before) : randomChange(where, x, random, before);
            if (Check.isError(answer)) {
                Check.duePicture(where + ": an error", x, before);
            } else {
                if (changes == 6) {
                    System.arraycopy(history, 1, history, 0, 5);
                    changes = 5;
                }
                history[changes++] = before;
            }
            Check.due(where + ": count(19)", x.count(19), changes);
        }
    }

    // ---- texts

    private static final String UNITS = "(?:[1-9][0-9]?|[1-3][0-9][0-9]|400)";
    private static final String ORDER = "(?:\\+(?:a" + UNITS + "(?:b" + UNITS + ")?(?:c" + UNITS + ")?(?:d" + UNITS + ")?"
        + "|b" + UNITS + "(?:c" + UNITS + ")?(?:d" + UNITS + ")?|c" + UNITS + "(?:d" + UNITS + ")?|d" + UNITS + ")"
        + "|[0-3](?:=[a-d]|-|~)|\\.(?:[1-9]|[1-3][0-9]|4[0-8]))";
    private static final Pattern TEXT = Pattern.compile(ORDER + "(?:;" + ORDER + ")*");

    /** The first character with which no text goes on any more. */
    private static int reckonFault(String text) {
        for (int length = 1; length <= text.length(); length++) {
            Matcher matcher = TEXT.matcher(text.substring(0, length));
            if (!matcher.matches() && !matcher.hitEnd()) {
                return length - 1;
            }
        }
        return TEXT.matcher(text).matches() ? NONE : text.length();
    }

    private static void randomTexts(Random random) {
        String signs = "+abcde0123456789=-~.;x";
        for (int i = 0; i < 20000; i++) {
            StringBuilder text = new StringBuilder(ordersText(random, 1 + random.nextInt(4)));
            for (int spoils = random.nextInt(3); spoils > 0; spoils--) {
                char sign = signs.charAt(random.nextInt(signs.length()));
                int at = random.nextInt(text.length());
                if (random.nextBoolean()) {
                    text.setCharAt(at, sign);
                } else {
                    text.insert(at, sign);
                }
            }
            text.setLength(Math.min(text.length(), random.nextInt(4) == 0 ? random.nextInt(60) : 60));
            JettyHoses x = new JettyHoses();
            Check.write(x, text.toString());
            Check.due("fault() of " + text, x.fault(), reckonFault(text.toString()));
        }
    }

    private static String ordersText(Random random, int orders) {
        StringBuilder text = new StringBuilder(orderText(random));
        for (int i = 1; i < orders; i++) {
            text.append(';').append(orderText(random));
        }
        return text.toString();
    }

    private static String orderText(Random random) {
        int hose = random.nextInt(4);
        switch (random.nextInt(6)) {
            case 0: return "." + (1 + random.nextInt(random.nextBoolean() ? 3 : 48));
            case 1: return hose + "-";
            case 2: return hose + "~";
            case 3:
                StringBuilder text = new StringBuilder("+");
                for (int grade = 0; grade < 4; grade++) {
                    if (random.nextBoolean() || grade == 3 && text.length() == 1) {
                        text.append((char) ('a' + grade)).append(1 + random.nextInt(400));
                    }
                }
                return text.toString();
            default: return hose + "=" + (char) ('a' + random.nextInt(4));
        }
    }

    private static void randomOrders(int run, Random random) {
        JettyHoses x = new JettyHoses();
        JettyHoses y = new JettyHoses();
        for (int round = 0; round < 12; round++) {
            String text = ordersText(random, 1 + random.nextInt(3));
            String where = "run " + run + ", orders " + text;
            Check.due(where, Check.write(x, text), text.length());
            int done = 0;
            for (String order : text.split(";")) {
                done += Check.isError(called(y, order)) ? 0 : 1;
            }
            Check.due(where, x.run(), done);
            Check.duePicture(where, x, Check.picture(y));
            JettyHoses[] both = {x, y};
            for (JettyHoses one : both) {
                one.boom(true);
                one.berth();
            }
        }
    }

    private static int called(JettyHoses y, String order) {
        char sign = order.charAt(0) == '+' || order.charAt(0) == '.' ? order.charAt(0) : order.charAt(1);
        switch (sign) {
            case '.': return y.pass(Integer.parseInt(order.substring(1)));
            case '-': return y.disconnect(order.charAt(0) - '0');
            case '~': return y.flush(order.charAt(0) - '0');
            case '=': return y.connect(order.charAt(0) - '0', "abcd".indexOf(order.charAt(2)));
            default:
                int[] units = new int[4];
                Matcher matcher = Pattern.compile("([a-d])([0-9]+)").matcher(order);
                while (matcher.find()) {
                    units["abcd".indexOf(matcher.group(1))] = Integer.parseInt(matcher.group(2));
                }
                return y.arrive(units[0], units[1], units[2], units[3]);
        }
    }

    // ---- changes

    private static int randomChange(String where, JettyHoses x, Random random, int[] before) {
        switch (random.nextInt(14)) {
            case 0: return x.set(random.nextInt(8) - 1, random.nextInt(60));
            case 1: return x.set(JettyHoses.DEPTH, 50 + random.nextInt(101));
            case 2: return x.arrive(load(random), load(random), load(random), load(random));
            case 3: return x.berth();
            case 4: return random.nextInt(3) == 0 ? x.leave() : x.berth();
            case 5: return x.reach(random.nextInt(5), random.nextInt(4) == 0 ? random.nextInt(140) : 45 + random.nextInt(50));
            case 6: return x.connect(random.nextInt(5), random.nextInt(4));
            case 7: return x.connect(random.nextInt(4), random.nextInt(5));
            case 8: return random.nextBoolean() ? x.disconnect(random.nextInt(5)) : x.flush(random.nextInt(5));
            case 9: return x.mend(random.nextInt(5));
            case 10: return x.boom(random.nextInt(5) != 0);
            case 11: return x.draw(random.nextInt(5), random.nextInt(60));
            case 12: return passed(where, x, 1, before);
            default: return passed(where, x, 1 + random.nextInt(9), before);
        }
    }

    /** Changes by which tanks become full and the boom, too: much is moved and spilt, and the settings stay. */
    private static int busyChange(String where, JettyHoses x, Random random, int[] before) {
        int hose = random.nextInt(4);
        if (before[3] != 40) {
            return x.set(JettyHoses.RATE, 40);
        }
        if (before[0] != 150) {
            return x.set(JettyHoses.DEPTH, 150);
        }
        if (before[10] == 0) {
            return before[9] == 0 ? x.arrive(400, random.nextInt(401), random.nextInt(401), 0) : x.berth();
        }
        if (before[13] == 0) {
            return x.boom(true);
        }
        switch (random.nextInt(7)) {
            case 0: return before[TANKERS] == 0 && before[11] == 0 ? x.leave() : x.disconnect(hose);
            case 1: return x.mend(hose);
            case 2: return x.reach(hose, random.nextInt(2) == 0 ? 20 : 90);
            case 3: return random.nextInt(3) == 0 ? x.flush(hose) : x.disconnect(hose);
            case 4: return x.connect(hose, random.nextInt(3));
            case 5: return x.connect(hose, 0);
            default: return passed(where, x, 1 + random.nextInt(9), before);
        }
    }

    private static int load(Random random) {
        return random.nextInt(3) == 0 ? 0 : random.nextInt(160);
    }

    private static int passed(String where, JettyHoses x, int hours, int[] before) {
        int[] due = before.clone();
        int stored = 0;
        for (int i = 0; i < hours; i++) {
            stored += reckonHour(due);
        }
        int answer = x.pass(hours);
        Check.due(where + ": pass(" + hours + ")", answer, stored);
        Check.duePicture(where + ": pass(" + hours + ")", x, due);
        return answer;
    }

    // ---- an hour, reckoned by a picture alone

    private static int tide(int amplitude, int hour) {
        int[] tenths = {0, 5, 9, 10, 9, 5};
        int half = hour % 6;
        int size = amplitude * tenths[half] / 10;
        return hour / 6 % 2 == 0 ? size : -size;
    }

    private static int reckonHour(int[] p) {
        int from = tide(p[1], p[6]);
        int to = tide(p[1], ++p[6]);
        if (p[13] == 1 && (to - from > 15 || from - to > 15)) {
            p[15] += p[14];
            p[14] = 0;
            p[13] = 0;
        }
        int stored = 0;
        if (p[10] == 1) {
            for (int hose = HOSES; hose < GRADES; hose += 6) {
                reckonBurst(p, hose, to);
            }
            boolean floats = p[0] + to >= draught(p, TANKERS) + p[2];
            for (int hose = HOSES; hose < GRADES; hose += 6) {
                stored += floats && p[13] == 1 ? reckonMove(p, hose) : 0;
            }
        }
        for (int place = 0; place < 6; place++) {
            reckonTanker(p, TANKERS + 8 * place, to);
        }
        p[7] = to;
        p[8] = p[0] + to;
        reckonSums(p);
        return stored;
    }

    private static int draught(int[] p, int tanker) {
        return 40 + (p[tanker] + p[tanker + 1] + p[tanker + 2] + p[tanker + 3]) / 20;
    }

    private static void reckonBurst(int[] p, int hose, int tide) {
        int grade = p[hose + 2];
        if (grade == NONE || 100 + tide - draught(p, TANKERS) <= p[hose]) {
            return;
        }
        p[hose + 2] = NONE;
        p[hose + 3] = 1;
        for (int unit = 0; unit < p[3] && p[TANKERS + grade] > 0; unit++) {
            p[TANKERS + grade]--;
            p[GRADES + 4 * grade + 3]++;
            p[p[13] == 1 && p[14] < 200 ? 14 : 15]++;
        }
    }

    private static int reckonMove(int[] p, int hose) {
        int grade = p[hose + 2];
        if (grade == NONE) {
            return 0;
        }
        int was = p[hose + 1];
        boolean isGood = was == NONE || was == grade;
        int tank = GRADES + 4 * grade;
        int room = 1000 - p[tank];
        int moved = 0;
        while (moved < p[3] && moved < room && p[TANKERS + grade] > 0) {
            p[TANKERS + grade]--;
            moved++;
        }
        if (moved == 0) {
            return 0;
        }
        p[hose + 1] = grade;
        p[tank + (isGood ? 0 : 2)] += moved;
        p[hose + (isGood ? 4 : 5)] += moved;
        return isGood ? moved : 0;
    }

    private static void reckonTanker(int[] p, int tanker, int tide) {
        if (p[tanker] == JettyHoses.NO_SUCH) {
            return;
        }
        int draught = draught(p, tanker);
        p[tanker + 4] = draught;
        p[tanker + 5] = 100 + tide - draught;
        p[tanker + 6] = p[0] + tide >= draught + p[2] ? 1 : 0;
        p[tanker + 7]++;
        if (p[tanker + 7] > p[4]) {
            p[17] += p[5];
        }
    }

    private static void reckonSums(int[] p) {
        p[11] = 0;
        p[12] = 0;
        for (int hose = HOSES; hose < GRADES; hose += 6) {
            p[11] += p[hose + 2] != NONE ? 1 : 0;
            p[12] += p[hose + 3];
        }
        for (int grade = 0; grade < 4; grade++) {
            int sum = 0;
            for (int tanker = TANKERS; tanker < HOSES; tanker += 8) {
                sum += p[tanker] == JettyHoses.NO_SUCH ? 0 : p[tanker + grade];
            }
            p[GRADES + 4 * grade + 1] = sum;
        }
    }

    // ---- what-ifs, by the same reckoning

    private static void whatIfs(String where, JettyHoses x, Random random) {
        int[] now = Check.picture(x);
        int hours = 1 + random.nextInt(200);
        int[] then = now.clone();
        int stored = 0;
        for (int i = 0; i < hours; i++) {
            stored += reckonHour(then);
        }
        int spoilt = 0;
        for (int grade = 0; grade < 4; grade++) {
            spoilt += then[GRADES + 4 * grade + 2] - now[GRADES + 4 * grade + 2];
        }
        Check.due(where + ": ifPassed(" + hours + ", 0)", x.ifPassed(hours, 0), stored);
        Check.due(where + ": ifPassed(" + hours + ", 1)", x.ifPassed(hours, 1), then[15] - now[15]);
        Check.due(where + ": ifPassed(" + hours + ", 2)", x.ifPassed(hours, 2), spoilt);
        Check.due(where + ": ifPassed(" + hours + ", 3)", x.ifPassed(hours, 3), then[17] - now[17]);
        for (int hose = 0; hose < 4; hose++) {
            boolean isConnected = now[HOSES + 6 * hose + 2] != NONE;
            int safe = isConnected ? reckonSafe(now, hose, now[HOSES + 6 * hose]) : NOT_POSSIBLE;
            Check.due(where + ": safeFor(" + hose + ")", x.safeFor(hose), safe);
            int reach = isConnected ? reckonReach(now, hose) : NOT_POSSIBLE;
            Check.due(where + ": leastReach(" + hose + ")", x.leastReach(hose), reach);
        }
        Check.due(where + ": untilEmpty()", x.untilEmpty(), reckonEmpty(now));
        Check.due(where + ": untilFloats()", x.untilFloats(), reckonFloats(now));
    }

    private static int reckonSafe(int[] now, int hose, int reach) {
        int[] then = now.clone();
        then[HOSES + 6 * hose] = reach;
        for (int hours = 0; hours < 200; hours++) {
            reckonHour(then);
            if (then[HOSES + 6 * hose + 3] == 1) {
                return hours;
            }
        }
        return NONE;
    }

    private static int reckonReach(int[] now, int hose) {
        for (int reach = 20; reach <= 120; reach++) {
            if (reckonSafe(now, hose, reach) == NONE) {
                return reach;
            }
        }
        return NONE;
    }

    private static int reckonEmpty(int[] now) {
        if (now[10] == 0) {
            return NOT_POSSIBLE;
        }
        int[] then = now.clone();
        for (int hours = 0; hours <= 200; hours++) {
            if (Arrays.stream(then, TANKERS, TANKERS + 4).sum() == 0) {
                return hours;
            }
            reckonHour(then);
        }
        return NONE;
    }

    private static int reckonFloats(int[] now) {
        if (now[9] == 0) {
            return NOT_POSSIBLE;
        }
        for (int hours = 0; hours <= 12; hours++) {
            if (now[0] + tide(now[1], now[6] + hours) >= draught(now, TANKERS + 8) + now[2]) {
                return hours;
            }
        }
        return NONE;
    }
}
