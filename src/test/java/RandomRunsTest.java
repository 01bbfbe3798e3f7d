import java.util.ArrayList;
import java.util.List;
import java.util.Random;

/** Runs of 512 calls, drawn from fixed seeds, each answer held against PlainTour. */
public final class RandomRunsTest {
    private static final Due DUE = new Due("RandomRunsTest");
    private static final int RUNS = 300;
    private static final int CALLS = 512;
    private static final int[] WRONG = {-1, -2, 31, 61, 101, 2001, Integer.MIN_VALUE, Integer.MAX_VALUE};

    private static final String[] SETTERS = {"addLine", "need", "need", "cut", "setChannel", "addCue", "move",
        "change", "change", "change", "addLamp", "addLamp", "borrow", "bringBack", "replace", "perform"};
    private static final String[] GETTERS = {"lines", "startOf", "length", "cues", "cueAt", "timeOf", "foldedInto",
        "changes", "levelAt", "levelBySeconds", "lamps", "whereIs", "wear", "laidOn", "lampLevel", "light",
        "shortOf", "bestStage", "bestToBorrow", "logs", "stageOf", "wasShortOf", "timesShort"};

    private final Random random;
    private final PlainTour plain = new PlainTour();
    private final CueTour tour = new CueTour();
    private final List<String> calls = new ArrayList<>();
    private final int mostLines;
    private final int wrongness;

    private RandomRunsTest(int seed) {
        random = new Random(seed);
        mostLines = 1 + random.nextInt(40);
        wrongness = seed % 4 == 0 ? 15 : 200;
    }

    public static void main(String[] args) {
        for (int seed = 1; seed <= RUNS; seed++) {
            new RandomRunsTest(seed).run(seed);
        }
        DUE.end();
    }

    private void run(int seed) {
        int setting = 30 + random.nextInt(60);
        for (int call = 0; call < CALLS; call++) {
            boolean sets = random.nextInt(100) < (call < 150 ? 90 : setting / 2);
            String name = sets ? SETTERS[random.nextInt(SETTERS.length)] : GETTERS[random.nextInt(GETTERS.length)];
            if (name.equals("addLine") && plain.lines() >= mostLines) {
                continue;
            }
            if (!compare(seed, name, draw(name))) {
                return;
            }
        }
    }

    private boolean compare(int seed, String name, int[] with) {
        String due = plain.answer(name, with[0], with[1], with[2], with[3]);
        String got = answer(name, with[0], with[1], with[2], with[3]);
        calls.add(name + java.util.Arrays.toString(with) + " = " + got);
        DUE.is("seed " + seed + ", " + name, got, due);
        if (!got.equals(due)) {
            System.out.println(String.join("\n", calls));
        }
        return got.equals(due);
    }

    private int upTo(int count) {
        return count == 0 ? 0 : random.nextInt(count);
    }

    private int line() {
        return upTo(plain.lines());
    }

    private int time() {
        return random.nextInt(10) == 0 ? random.nextInt(2001) : random.nextInt(120);
    }

    private int need() {
        return random.nextInt(3) == 0 ? 0 : random.nextInt(101);
    }

    private int fade() {
        return random.nextInt(3) == 0 ? 0 : random.nextInt(61);
    }

    /** Arguments of a call, sometimes one of them wrong. */
    private int[] draw(String name) {
        int[] with = right(name);
        if (random.nextInt(wrongness) == 0) {
            with[random.nextInt(4)] = WRONG[random.nextInt(WRONG.length)];
        }
        return with;
    }

    private int[] right(String name) {
        switch (name) {
            case "addLine": return row(1 + random.nextInt(30), 0, 0, 0);
            case "need": return row(line(), random.nextInt(4), need(), 0);
            case "cut": return row(line(), random.nextInt(2), 0, 0);
            case "startOf": case "timesShort": return row(line(), 0, 0, 0);
            case "setChannel": return row(random.nextInt(10), random.nextInt(4), random.nextInt(3), 0);
            case "addCue": return row(line(), offset(), fade(), 0);
            case "move": return row(upTo(plain.cues()), line(), offset(), fade());
            case "change": return row(upTo(plain.cues()), random.nextInt(10), random.nextInt(102) - 1, 0);
            case "cueAt": case "timeOf": case "foldedInto": return row(upTo(plain.cues() + 1), 0, 0, 0);
            case "changes": return row(upTo(plain.cues()), random.nextInt(10), 0, 0);
            case "levelAt": case "levelBySeconds": return row(random.nextInt(10), time(), 0, 0);
            default: return rightOfLamps(name);
        }
    }

    private int offset() {
        return random.nextInt(2) == 0 ? random.nextInt(4) : random.nextInt(61);
    }

    private int[] rightOfLamps(String name) {
        int stage = random.nextInt(4);
        int area = random.nextInt(4);
        switch (name) {
            case "addLamp": return row(stage, area, random.nextInt(3), 1 + random.nextInt(100));
            case "borrow": return row(upTo(plain.lamps()), stage, area, 0);
            case "bringBack": case "replace": case "whereIs": case "wear":
                return row(upTo(plain.lamps()), 0, 0, 0);
            case "laidOn": return row(stage, random.nextInt(10), 0, 0);
            case "lampLevel": return row(upTo(plain.lamps()), time(), 0, 0);
            case "light": return row(stage, area, time(), 0);
            case "shortOf": return row(stage, line(), 0, 0);
            case "bestToBorrow": return row(stage, area, 0, 0);
            case "perform": return row(stage, 0, 0, 0);
            case "stageOf": return row(upTo(plain.logs()), 0, 0, 0);
            case "wasShortOf": return row(upTo(plain.logs()), line(), 0, 0);
            default: return row(0, 0, 0, 0);
        }
    }

    private static int[] row(int a, int b, int c, int d) {
        return new int[] {a, b, c, d};
    }

    private String answer(String name, int a, int b, int c, int d) {
        try {
            return "" + called(name, a, b, c, d);
        } catch (RuntimeException e) {
            return "throws." + e.getClass().getSimpleName();
        }
    }

    private int called(String name, int a, int b, int c, int d) {
        switch (name) {
            case "addLine": return tour.addLine(a);
            case "need": return tour.need(a, b, c);
            case "cut": return tour.cut(a, b != 0);
            case "lines": return tour.lines();
            case "startOf": return tour.startOf(a);
            case "length": return tour.length();
            case "setChannel": return tour.setChannel(a, b, c);
            case "addCue": return tour.addCue(a, b, c);
            case "move": return tour.move(a, b, c, d);
            case "change": return tour.change(a, b, c);
            case "cues": return tour.cues();
            case "cueAt": return tour.cueAt(a);
            case "timeOf": return tour.timeOf(a);
            case "foldedInto": return tour.foldedInto(a);
            case "changes": return tour.changes(a, b);
            case "levelAt": return tour.levelAt(a, b);
            case "levelBySeconds": return tour.levelBySeconds(a, b);
            default: return calledOfLamps(name, a, b, c, d);
        }
    }

    private int calledOfLamps(String name, int a, int b, int c, int d) {
        switch (name) {
            case "addLamp": return tour.addLamp(a, b, c, d);
            case "borrow": return tour.borrow(a, b, c);
            case "bringBack": return tour.bringBack(a);
            case "replace": return tour.replace(a);
            case "lamps": return tour.lamps();
            case "whereIs": return tour.whereIs(a);
            case "wear": return tour.wear(a);
            case "laidOn": return tour.laidOn(a, b);
            case "lampLevel": return tour.lampLevel(a, b);
            case "light": return tour.light(a, b, c);
            case "shortOf": return tour.shortOf(a, b);
            case "bestStage": return tour.bestStage();
            case "bestToBorrow": return tour.bestToBorrow(a, b);
            case "perform": return tour.perform(a);
            case "logs": return tour.logs();
            case "stageOf": return tour.stageOf(a);
            case "wasShortOf": return tour.wasShortOf(a, b);
            case "timesShort": return tour.timesShort(a);
            default: throw new UnsupportedOperationException("no such call: " + name);
        }
    }
}
