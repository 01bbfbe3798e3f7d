import java.util.ArrayList;
import java.util.Comparator;
import java.util.List;

/**
 * The document once more, in the slowest and most literal form, as a measure for random runs.
 * Answers are texts, so that an exception can be told like a number.
 */
final class PlainTour {
    private static final String NO_SUCH = "throws.IndexOutOfBoundsException";
    private static final String OUT_OF_RANGE = "throws.IllegalArgumentException";
    private static final String NOT_NOW = "throws.IllegalStateException";

    private static final class Line {
        int seconds;
        boolean isCut;
        int[] needs = new int[4];
    }

    private static final class Cue {
        int number;
        int line;
        int offset;
        int fade;
        int[] levels = {-1, -1, -1, -1, -1, -1, -1, -1, -1, -1};
    }

    private static final class Lamp {
        int home;
        int homeArea;
        int stage;
        int area;
        int colour;
        int power;
        int wear;
    }

    private static final class Log {
        int stage;
        List<Integer> sets = new ArrayList<>();
    }

    private final List<Line> lines = new ArrayList<>();
    private final List<Cue> cues = new ArrayList<>();
    private final List<Lamp> lamps = new ArrayList<>();
    private final List<Log> logs = new ArrayList<>();
    private final int[][] channels = new int[10][];
    private int[][] table;

    PlainTour() {
        for (int c = 0; c < 10; c++) {
            channels[c] = new int[] {c % 4, 0};
        }
    }

    int lines() {
        return lines.size();
    }

    int cues() {
        return cues.size();
    }

    int lamps() {
        return lamps.size();
    }

    int logs() {
        return logs.size();
    }

    private static boolean in(int value, int least, int most) {
        return least <= value && value <= most;
    }

    /** What a call answers; of the arguments each call takes those that it has. */
    String answer(String call, int a, int b, int c, int d) {
        switch (call) {
            case "addLine": case "need": case "cut": case "lines": case "startOf": case "length":
                table = null;
                return ofScript(call, a, b, c);
            case "setChannel": case "addCue": case "move": case "change":
                table = null;
                return ofEdits(call, a, b, c, d);
            case "cues": case "cueAt": case "timeOf": case "foldedInto": case "changes":
            case "levelAt": case "levelBySeconds":
                return ofCues(call, a, b);
            case "addLamp": case "borrow": case "bringBack": case "replace":
                return ofMoves(call, a, b, c, d);
            case "perform": case "logs": case "stageOf": case "wasShortOf": case "timesShort":
                return ofLogs(call, a, b);
            default:
                return ofLamps(call, a, b, c);
        }
    }

    private String ofScript(String call, int a, int b, int c) {
        switch (call) {
            case "addLine":
                if (!in(a, 1, 30)) return OUT_OF_RANGE;
                if (lines.size() == 30) return NOT_NOW;
                Line added = new Line();
                added.seconds = a;
                lines.add(added);
                return "" + (lines.size() - 1);
            case "need":
                if (!in(a, 0, lines.size() - 1) || !in(b, 0, 3)) return NO_SUCH;
                if (!in(c, 0, 100)) return OUT_OF_RANGE;
                int before = lines.get(a).needs[b];
                lines.get(a).needs[b] = c;
                return "" + before;
            case "cut":
                if (!in(a, 0, lines.size() - 1)) return NO_SUCH;
                lines.get(a).isCut = b != 0;
                return "" + length();
            case "startOf":
                if (!in(a, 0, lines.size() - 1)) return NO_SUCH;
                return "" + (lines.get(a).isCut ? -1 : start(a));
            case "lines":
                return "" + lines.size();
            default:
                return "" + length();
        }
    }

    private int start(int line) {
        return lines.subList(0, line).stream().filter(l -> !l.isCut).mapToInt(l -> l.seconds).sum();
    }

    private int length() {
        return start(lines.size());
    }

    private String ofEdits(String call, int a, int b, int c, int d) {
        switch (call) {
            case "setChannel":
                if (!in(a, 0, 9) || !in(b, 0, 3)) return NO_SUCH;
                if (!in(c, 0, 2)) return OUT_OF_RANGE;
                int[] old = channels[a];
                channels[a] = new int[] {b, c};
                return "" + (10 * old[0] + old[1]);
            case "addCue":
                if (!in(a, 0, lines.size() - 1)) return NO_SUCH;
                if (!in(b, 0, 60) || !in(c, 0, 60)) return OUT_OF_RANGE;
                if (cues.size() == 20) return NOT_NOW;
                Cue added = new Cue();
                added.number = cues.size();
                cues.add(added);
                put(added, a, b, c);
                return "" + added.number;
            case "move":
                if (!in(a, 0, cues.size() - 1) || !in(b, 0, lines.size() - 1)) return NO_SUCH;
                if (!in(c, 0, 60) || !in(d, 0, 60)) return OUT_OF_RANGE;
                int line = cues.get(a).line;
                put(cues.get(a), b, c, d);
                return "" + line;
            default:
                if (!in(a, 0, cues.size() - 1) || !in(b, 0, 9)) return NO_SUCH;
                if (!in(c, -1, 100)) return OUT_OF_RANGE;
                int level = cues.get(a).levels[b];
                cues.get(a).levels[b] = c;
                return "" + level;
        }
    }

    private static void put(Cue cue, int line, int offset, int fade) {
        cue.line = line;
        cue.offset = offset;
        cue.fade = fade;
    }

    private List<Cue> order() {
        List<Cue> sorted = new ArrayList<>(cues);
        sorted.sort(Comparator.<Cue>comparingInt(q -> q.line).thenComparingInt(q -> q.offset)
                .thenComparingInt(q -> q.number));
        return sorted;
    }

    private boolean plays(Cue cue) {
        return !lines.get(cue.line).isCut;
    }

    private int time(Cue cue) {
        return plays(cue) ? start(cue.line) + cue.offset : -1;
    }

    private int folded(Cue cue) {
        List<Cue> order = order();
        for (Cue each : order.subList(order.indexOf(cue), order.size())) {
            if (plays(each)) return each.number;
        }
        return -1;
    }

    private int change(Cue cue, int channel) {
        if (!plays(cue)) return -1;
        if (cue.levels[channel] != -1) return cue.levels[channel];
        int last = -1;
        for (Cue each : order()) {
            if (each != cue && folded(each) == cue.number && each.levels[channel] != -1) {
                last = each.levels[channel];
            }
        }
        return last;
    }

    /** The levels of a channel at all times from 0 to 2000, each fade written over what was there. */
    private int[] levels(int channel) {
        if (table == null) table = new int[10][];
        if (table[channel] != null) return table[channel];
        int[] row = new int[2001];
        List<Cue> order = order();
        int[] times = order.stream().mapToInt(this::time).toArray();
        int[] changes = order.stream().mapToInt(q -> change(q, channel)).toArray();
        for (int now = 0; now <= 2000; now++) {
            for (Cue cue : order) {
                int to = changes[order.indexOf(cue)];
                if (times[order.indexOf(cue)] != now || to == -1) continue;
                int from = row[now];
                for (int t = now; t <= 2000; t++) {
                    int k = t - now;
                    int steps = k < cue.fade ? Math.abs(to - from) * k / cue.fade : Math.abs(to - from);
                    row[t] = to > from ? from + steps : from - steps;
                }
            }
        }
        table[channel] = row;
        return row;
    }

    private String ofCues(String call, int a, int b) {
        switch (call) {
            case "cues":
                return "" + cues.size();
            case "cueAt":
                return in(a, 0, cues.size() - 1) ? "" + order().get(a).number : NO_SUCH;
            case "timeOf":
                return in(a, 0, cues.size() - 1) ? "" + time(cues.get(a)) : NO_SUCH;
            case "foldedInto":
                return in(a, 0, cues.size() - 1) ? "" + folded(cues.get(a)) : NO_SUCH;
            case "changes":
                if (!in(a, 0, cues.size() - 1) || !in(b, 0, 9)) return NO_SUCH;
                return "" + change(cues.get(a), b);
            default:
                if (!in(a, 0, 9)) return NO_SUCH;
                return in(b, 0, 2000) ? "" + levels(a)[b] : OUT_OF_RANGE;
        }
    }

    private String ofMoves(String call, int a, int b, int c, int d) {
        if (call.equals("addLamp")) {
            if (!in(a, 0, 3) || !in(b, 0, 3)) return NO_SUCH;
            if (!in(c, 0, 2) || !in(d, 1, 100)) return OUT_OF_RANGE;
            if (lamps.size() == 20) return NOT_NOW;
            Lamp lamp = new Lamp();
            lamp.home = lamp.stage = a;
            lamp.homeArea = lamp.area = b;
            lamp.colour = c;
            lamp.power = d;
            lamps.add(lamp);
            return "" + (lamps.size() - 1);
        }
        if (!in(a, 0, lamps.size() - 1)) return NO_SUCH;
        Lamp lamp = lamps.get(a);
        int stage = lamp.stage;
        int wear = lamp.wear;
        switch (call) {
            case "borrow":
                if (!in(b, 0, 3) || !in(c, 0, 3)) return NO_SUCH;
                if (stage != lamp.home || b == lamp.home) return NOT_NOW;
                lamp.stage = b;
                lamp.area = c;
                return "" + stage;
            case "bringBack":
                if (stage == lamp.home) return NOT_NOW;
                lamp.stage = lamp.home;
                lamp.area = lamp.homeArea;
                return "" + stage;
            default:
                lamp.wear = 0;
                return "" + wear;
        }
    }

    private int laid(int stage, int channel) {
        int all = 0;
        int alike = 0;
        for (int l = 0; l < lamps.size(); l++) {
            Lamp lamp = lamps.get(l);
            if (lamp.stage != stage || lamp.area != channels[channel][0]) continue;
            all += 1 << l;
            if (lamp.colour == channels[channel][1]) alike += 1 << l;
        }
        return alike == 0 ? all : alike;
    }

    /** The channels that are laid on a lamp where it is; of a dead one none. */
    private List<Integer> channelsOn(int lamp) {
        List<Integer> found = new ArrayList<>();
        for (int c = 0; c < 10 && lamps.get(lamp).wear < 300; c++) {
            if ((laid(lamps.get(lamp).stage, c) & 1 << lamp) != 0) found.add(c);
        }
        return found;
    }

    private int lampLevel(int lamp, int time) {
        return channelsOn(lamp).stream().mapToInt(c -> levels(c)[time]).max().orElse(0);
    }

    private int light(int stage, int area, int time) {
        int sum = 0;
        for (int l = 0; l < lamps.size(); l++) {
            Lamp lamp = lamps.get(l);
            if (lamp.stage == stage && lamp.area == area) sum += lampLevel(l, time) * lamp.power / 100;
        }
        return Math.min(100, sum);
    }

    private int shortSet(int stage, int line) {
        Line it = lines.get(line);
        int set = 0;
        for (int area = 0; area < 4 && !it.isCut; area++) {
            int end = start(line) + it.seconds - 1;
            // No light is below 0, so that what needs 0 is never short.
            if (it.needs[area] > 0 && light(stage, area, end) < it.needs[area]) set += 1 << area;
        }
        return set;
    }

    private int shortLines(int stage) {
        int found = 0;
        for (int line = 0; line < lines.size(); line++) {
            found += shortSet(stage, line) != 0 ? 1 : 0;
        }
        return found;
    }

    private int bestStage() {
        int best = 3;
        for (int stage = 2; stage >= 0; stage--) {
            if (shortLines(stage) <= shortLines(best)) best = stage;
        }
        return best;
    }

    private int bestLamp(int stage, int area) {
        int fewest = shortLines(stage);
        int best = -1;
        for (int l = 0; l < lamps.size(); l++) {
            Lamp lamp = lamps.get(l);
            if (lamp.stage != lamp.home || lamp.home == stage) continue;
            lamp.stage = stage;
            lamp.area = area;
            int found = shortLines(stage);
            if (found < fewest) {
                fewest = found;
                best = l;
            }
            lamp.stage = lamp.home;
            lamp.area = lamp.homeArea;
        }
        return best;
    }

    private String ofLamps(String call, int a, int b, int c) {
        switch (call) {
            case "lamps":
                return "" + lamps.size();
            case "whereIs":
                return in(a, 0, lamps.size() - 1) ? "" + lamps.get(a).stage : NO_SUCH;
            case "wear":
                return in(a, 0, lamps.size() - 1) ? "" + lamps.get(a).wear : NO_SUCH;
            case "laidOn":
                if (!in(a, 0, 3) || !in(b, 0, 9)) return NO_SUCH;
                return "" + laid(a, b);
            case "lampLevel":
                if (!in(a, 0, lamps.size() - 1)) return NO_SUCH;
                return in(b, 0, 2000) ? "" + lampLevel(a, b) : OUT_OF_RANGE;
            case "light":
                if (!in(a, 0, 3) || !in(b, 0, 3)) return NO_SUCH;
                return in(c, 0, 2000) ? "" + light(a, b, c) : OUT_OF_RANGE;
            case "shortOf":
                if (!in(a, 0, 3) || !in(b, 0, lines.size() - 1)) return NO_SUCH;
                return "" + shortSet(a, b);
            case "bestStage":
                return "" + bestStage();
            case "bestToBorrow":
                return in(a, 0, 3) && in(b, 0, 3) ? "" + bestLamp(a, b) : NO_SUCH;
            default:
                throw new IllegalStateException("no such call: " + call);
        }
    }

    private String perform(int stage) {
        if (!in(stage, 0, 3)) return NO_SUCH;
        if (length() == 0 || logs.size() == 20) return NOT_NOW;
        Log log = new Log();
        log.stage = stage;
        for (int line = 0; line < lines.size(); line++) {
            log.sets.add(shortSet(stage, line));
        }
        logs.add(log);
        for (int l = 0; l < lamps.size(); l++) {
            if (lamps.get(l).stage != stage) continue;
            List<Integer> on = channelsOn(l);
            int seconds = 0;
            for (int t = 0; t < length(); t++) {
                int now = t;
                seconds += on.stream().anyMatch(c -> levels(c)[now] > 0) ? 1 : 0;
            }
            lamps.get(l).wear += seconds;
        }
        return "" + log.sets.stream().filter(s -> s != 0).count();
    }

    private String ofLogs(String call, int a, int b) {
        switch (call) {
            case "perform":
                return perform(a);
            case "logs":
                return "" + logs.size();
            case "stageOf":
                return in(a, 0, logs.size() - 1) ? "" + logs.get(a).stage : NO_SUCH;
            case "wasShortOf":
                if (!in(a, 0, logs.size() - 1) || !in(b, 0, lines.size() - 1)) return NO_SUCH;
                return "" + (b < logs.get(a).sets.size() ? logs.get(a).sets.get(b) : 0);
            default:
                if (!in(a, 0, lines.size() - 1)) return NO_SUCH;
                return "" + logs.stream().filter(g -> a < g.sets.size() && g.sets.get(a) != 0).count();
        }
    }
}
