/**
 * A light board of a touring theatre: a script of lines, cues that track, stages with lamps, and
 * logs of performances.
 *
 * <p>The calls of the face look at their arguments; the classes inside trust what they are given.
 * All rows are made once, with the object, so that no call makes any.
 */
public final class CueTour {
    public static final int NONE = -1;

    private static final int MOST_LINES = 30;
    private static final int MOST_CUES = 20;
    private static final int MOST_LAMPS = 20;
    private static final int MOST_LOGS = 20;
    private static final int STAGES = 4;
    private static final int AREAS = 4;
    private static final int CHANNELS = 10;
    private static final int LONGEST_LINE = 30;
    private static final int LONGEST_WAIT = 60;
    private static final int LAST_COLOUR = 2;
    private static final int FULL = 100;
    private static final int LAST_TIME = 2000;
    private static final int DEAD_WEAR = 300;

    private final Script script = new Script();
    private final Patch patch = new Patch();
    private final CueList cueList = new CueList();
    private final Rig rig = new Rig();
    private final Book book = new Book();

    // Working rows, filled anew by each call that reads them.
    private final int[] levels = new int[CHANNELS];
    private final int[] laid = new int[CHANNELS];
    private final int[][] endLevels = new int[MOST_LINES][CHANNELS];

    public CueTour() {
    }

    // ---- the script

    public int addLine(int seconds) throws IllegalArgumentException, IllegalStateException {
        checkRange(seconds, 1, LONGEST_LINE);
        checkRoom(script.count, MOST_LINES);
        return script.append(seconds);
    }

    public int need(int line, int area, int level)
            throws IndexOutOfBoundsException, IllegalArgumentException {
        checkNumber(line, script.count);
        checkNumber(area, AREAS);
        checkRange(level, 0, FULL);
        int before = script.needs[line][area];
        script.needs[line][area] = level;
        return before;
    }

    public int cut(int line, boolean isCut) throws IndexOutOfBoundsException {
        checkNumber(line, script.count);
        script.isOut[line] = isCut;
        cueList.arrange(script);
        return script.total();
    }

    public int lines() {
        return script.count;
    }

    public int startOf(int line) throws IndexOutOfBoundsException {
        checkNumber(line, script.count);
        return script.isOut[line] ? NONE : script.secondsAhead(line);
    }

    public int length() {
        return script.total();
    }

    // ---- channels and cues

    public int setChannel(int channel, int area, int colour)
            throws IndexOutOfBoundsException, IllegalArgumentException {
        checkNumber(channel, CHANNELS);
        checkNumber(area, AREAS);
        checkRange(colour, 0, LAST_COLOUR);
        int before = 10 * patch.areas[channel] + patch.colours[channel];
        patch.areas[channel] = area;
        patch.colours[channel] = colour;
        return before;
    }

    public int addCue(int line, int offset, int fade)
            throws IndexOutOfBoundsException, IllegalArgumentException, IllegalStateException {
        checkNumber(line, script.count);
        checkRange(offset, 0, LONGEST_WAIT);
        checkRange(fade, 0, LONGEST_WAIT);
        checkRoom(cueList.count, MOST_CUES);
        int cue = cueList.append();
        cueList.place(cue, line, offset, fade);
        cueList.arrange(script);
        return cue;
    }

    public int move(int cue, int line, int offset, int fade)
            throws IndexOutOfBoundsException, IllegalArgumentException {
        checkNumber(cue, cueList.count);
        checkNumber(line, script.count);
        checkRange(offset, 0, LONGEST_WAIT);
        checkRange(fade, 0, LONGEST_WAIT);
        int before = cueList.lineOf[cue];
        cueList.place(cue, line, offset, fade);
        cueList.arrange(script);
        return before;
    }

    public int change(int cue, int channel, int level)
            throws IndexOutOfBoundsException, IllegalArgumentException {
        checkNumber(cue, cueList.count);
        checkNumber(channel, CHANNELS);
        checkRange(level, NONE, FULL);
        int before = cueList.own[cue][channel];
        cueList.own[cue][channel] = level;
        cueList.arrange(script);
        return before;
    }

    public int cues() {
        return cueList.count;
    }

    public int cueAt(int place) throws IndexOutOfBoundsException {
        checkNumber(place, cueList.count);
        return cueList.order[place];
    }

    public int timeOf(int cue) throws IndexOutOfBoundsException {
        checkNumber(cue, cueList.count);
        return cueList.times[cue];
    }

    public int foldedInto(int cue) throws IndexOutOfBoundsException {
        checkNumber(cue, cueList.count);
        return cueList.into[cue];
    }

    public int changes(int cue, int channel) throws IndexOutOfBoundsException {
        checkNumber(cue, cueList.count);
        checkNumber(channel, CHANNELS);
        return cueList.made[cue][channel];
    }

    public int levelAt(int channel, int time)
            throws IndexOutOfBoundsException, IllegalArgumentException {
        checkNumber(channel, CHANNELS);
        checkRange(time, 0, LAST_TIME);
        return cueList.levelByFades(channel, time);
    }

    public int levelBySeconds(int channel, int time)
            throws IndexOutOfBoundsException, IllegalArgumentException {
        checkNumber(channel, CHANNELS);
        checkRange(time, 0, LAST_TIME);
        return cueList.levelByTicks(channel, time);
    }

    // ---- stages and lamps

    public int addLamp(int stage, int area, int colour, int power)
            throws IndexOutOfBoundsException, IllegalArgumentException, IllegalStateException {
        checkNumber(stage, STAGES);
        checkNumber(area, AREAS);
        checkRange(colour, 0, LAST_COLOUR);
        checkRange(power, 1, FULL);
        checkRoom(rig.count, MOST_LAMPS);
        return rig.append(stage, area, colour, power);
    }

    public int borrow(int lamp, int stage, int area)
            throws IndexOutOfBoundsException, IllegalStateException {
        checkNumber(lamp, rig.count);
        checkNumber(stage, STAGES);
        checkNumber(area, AREAS);
        checkState(rig.canGo(lamp, stage));
        rig.put(lamp, stage, area);
        return rig.homes[lamp];
    }

    public int bringBack(int lamp) throws IndexOutOfBoundsException, IllegalStateException {
        checkNumber(lamp, rig.count);
        checkState(!rig.isHome(lamp));
        int before = rig.stages[lamp];
        rig.putHome(lamp);
        return before;
    }

    public int replace(int lamp) throws IndexOutOfBoundsException {
        checkNumber(lamp, rig.count);
        int before = rig.wears[lamp];
        rig.wears[lamp] = 0;
        return before;
    }

    public int lamps() {
        return rig.count;
    }

    public int whereIs(int lamp) throws IndexOutOfBoundsException {
        checkNumber(lamp, rig.count);
        return rig.stages[lamp];
    }

    public int wear(int lamp) throws IndexOutOfBoundsException {
        checkNumber(lamp, rig.count);
        return rig.wears[lamp];
    }

    public int laidOn(int stage, int channel) throws IndexOutOfBoundsException {
        checkNumber(stage, STAGES);
        checkNumber(channel, CHANNELS);
        return rig.lampsFor(stage, patch.areas[channel], patch.colours[channel]);
    }

    public int lampLevel(int lamp, int time)
            throws IndexOutOfBoundsException, IllegalArgumentException {
        checkNumber(lamp, rig.count);
        checkRange(time, 0, LAST_TIME);
        rig.lay(rig.stages[lamp], patch, laid);
        cueList.fillLevels(time, levels);
        return rig.levelOf(lamp, laid, levels);
    }

    public int light(int stage, int area, int time)
            throws IndexOutOfBoundsException, IllegalArgumentException {
        checkNumber(stage, STAGES);
        checkNumber(area, AREAS);
        checkRange(time, 0, LAST_TIME);
        rig.lay(stage, patch, laid);
        cueList.fillLevels(time, levels);
        return rig.lightOf(stage, area, laid, levels);
    }

    public int shortOf(int stage, int line) throws IndexOutOfBoundsException {
        checkNumber(stage, STAGES);
        checkNumber(line, script.count);
        rig.lay(stage, patch, laid);
        readEndOf(line);
        return shortAreas(stage, line);
    }

    public int bestStage() {
        readEnds();
        int best = 0;
        int fewest = countShort(0);
        for (int stage = 1; stage < STAGES; stage++) {
            int found = countShort(stage);
            if (found < fewest) {
                best = stage;
                fewest = found;
            }
        }
        return best;
    }

    public int bestToBorrow(int stage, int area) throws IndexOutOfBoundsException {
        checkNumber(stage, STAGES);
        checkNumber(area, AREAS);
        readEnds();
        int best = NONE;
        int fewest = countShort(stage);
        for (int lamp = 0; lamp < rig.count; lamp++) {
            if (rig.canGo(lamp, stage)) {
                int found = countShortWith(lamp, stage, area);
                if (found < fewest) {
                    best = lamp;
                    fewest = found;
                }
            }
        }
        return best;
    }

    // ---- performances

    public int perform(int stage) throws IndexOutOfBoundsException, IllegalStateException {
        checkNumber(stage, STAGES);
        checkState(script.total() > 0);
        checkRoom(book.count, MOST_LOGS);
        readEnds();
        int found = countShort(stage);
        writeLog(stage);
        wearOut(stage);
        return found;
    }

    public int logs() {
        return book.count;
    }

    public int stageOf(int log) throws IndexOutOfBoundsException {
        checkNumber(log, book.count);
        return book.stages[log];
    }

    public int wasShortOf(int log, int line) throws IndexOutOfBoundsException {
        checkNumber(log, book.count);
        checkNumber(line, script.count);
        return book.shorts[log][line];
    }

    public int timesShort(int line) throws IndexOutOfBoundsException {
        checkNumber(line, script.count);
        return book.countShortLogs(line);
    }

    // ---- what several calls share

    private static void checkNumber(int number, int count) {
        if (number < 0 || number >= count) {
            throw new IndexOutOfBoundsException("there is no such number");
        }
    }

    private static void checkRange(int value, int least, int most) {
        if (value < least || value > most) {
            throw new IllegalArgumentException("an argument is out of its range");
        }
    }

    private static void checkRoom(int count, int most) {
        if (count >= most) {
            throw new IllegalStateException("there are as many as there may be");
        }
    }

    private static void checkState(boolean isRight) {
        if (!isRight) {
            throw new IllegalStateException("this can not be asked now");
        }
    }

    /** Reads the levels in the last second of a line; a cut line has none. */
    private void readEndOf(int line) {
        if (!script.isOut[line]) {
            cueList.fillLevels(script.lastSecondOf(line), endLevels[line]);
        }
    }

    private void readEnds() {
        for (int line = 0; line < script.count; line++) {
            readEndOf(line);
        }
    }

    /** The areas of which a line is short; the stage is laid and the line's end is read. */
    private int shortAreas(int stage, int line) {
        if (script.isOut[line]) {
            return 0;
        }
        int set = 0;
        for (int area = 0; area < AREAS; area++) {
            if (rig.lightOf(stage, area, laid, endLevels[line]) < script.needs[line][area]) {
                set |= 1 << area;
            }
        }
        return set;
    }

    /** How many lines are short of some area; all ends are read. */
    private int countShort(int stage) {
        rig.lay(stage, patch, laid);
        int found = 0;
        for (int line = 0; line < script.count; line++) {
            if (shortAreas(stage, line) != 0) {
                found++;
            }
        }
        return found;
    }

    /** The same, were a lamp borrowed that is at its home now. */
    private int countShortWith(int lamp, int stage, int area) {
        rig.put(lamp, stage, area);
        int found = countShort(stage);
        rig.putHome(lamp);
        return found;
    }

    /** Keeps what is short; the stage is laid and all ends are read. */
    private void writeLog(int stage) {
        int log = book.append(stage);
        for (int line = 0; line < script.count; line++) {
            book.shorts[log][line] = shortAreas(stage, line);
        }
    }

    /** Lets the lamps of a stage burn through the script; the stage is laid. */
    private void wearOut(int stage) {
        int end = script.total();
        rig.startBurning();
        for (int second = 0; second < end; second++) {
            cueList.fillLevels(second, levels);
            rig.burn(stage, laid, levels);
        }
        rig.addBurnt();
    }

    /** The lines, and what they need. */
    private static final class Script {
        private final int[] seconds = new int[MOST_LINES];
        private final boolean[] isOut = new boolean[MOST_LINES];
        private final int[][] needs = new int[MOST_LINES][AREAS];
        private int count = 0;

        int append(int secondsOfLine) {
            seconds[count] = secondsOfLine;
            count++;
            return count - 1;
        }

        /** The seconds of all lines ahead of a line that are not cut. */
        int secondsAhead(int line) {
            int sum = 0;
            for (int earlier = 0; earlier < line; earlier++) {
                if (!isOut[earlier]) {
                    sum += seconds[earlier];
                }
            }
            return sum;
        }

        int lastSecondOf(int line) {
            return secondsAhead(line) + seconds[line] - 1;
        }

        int total() {
            return secondsAhead(count);
        }
    }

    /** For which area each channel is, and its colour. */
    private static final class Patch {
        private final int[] areas = new int[CHANNELS];
        private final int[] colours = new int[CHANNELS];

        Patch() {
            for (int channel = 0; channel < CHANNELS; channel++) {
                areas[channel] = channel % AREAS;
            }
        }
    }

    /** The cues, and what follows from them and the script as it is. */
    private static final class CueList {
        private final int[] lineOf = new int[MOST_CUES];
        private final int[] offsets = new int[MOST_CUES];
        private final int[] fades = new int[MOST_CUES];
        private final int[][] own = new int[MOST_CUES][CHANNELS];
        private int count = 0;

        // What follows; arrange works it out whenever a cue or a cut changes.
        private final int[] order = new int[MOST_CUES];
        private final int[] times = new int[MOST_CUES];
        private final int[] into = new int[MOST_CUES];
        private final int[][] made = new int[MOST_CUES][CHANNELS];
        private final int[] plays = new int[MOST_CUES];
        private int playCount = 0;

        int append() {
            for (int channel = 0; channel < CHANNELS; channel++) {
                own[count][channel] = NONE;
            }
            count++;
            return count - 1;
        }

        void place(int cue, int line, int offset, int fade) {
            lineOf[cue] = line;
            offsets[cue] = offset;
            fades[cue] = fade;
        }

        void arrange(Script script) {
            sortCues();
            setTimes(script);
            fold();
            sortPlays();
        }

        private void sortCues() {
            for (int cue = 0; cue < count; cue++) {
                int place = cue;
                while (place > 0 && comesAhead(cue, order[place - 1])) {
                    order[place] = order[place - 1];
                    place--;
                }
                order[place] = cue;
            }
        }

        /** Whether a cue stands ahead of one with a lower number. */
        private boolean comesAhead(int cue, int lower) {
            if (lineOf[cue] != lineOf[lower]) {
                return lineOf[cue] < lineOf[lower];
            }
            return offsets[cue] < offsets[lower];
        }

        private void setTimes(Script script) {
            for (int cue = 0; cue < count; cue++) {
                int line = lineOf[cue];
                times[cue] = script.isOut[line] ? NONE : script.secondsAhead(line) + offsets[cue];
            }
        }

        /** Walks back, so that of several folded cues the last one is the first to give a level. */
        private void fold() {
            int next = NONE;
            for (int place = count - 1; place >= 0; place--) {
                int cue = order[place];
                forget(cue);
                if (times[cue] != NONE) {
                    next = cue;
                }
                into[cue] = next;
                if (next != NONE) {
                    fillIn(next, cue);
                }
            }
        }

        private void forget(int cue) {
            for (int channel = 0; channel < CHANNELS; channel++) {
                made[cue][channel] = NONE;
            }
        }

        /** Gives a played cue the changes of another for the channels that it does not change. */
        private void fillIn(int played, int cue) {
            for (int channel = 0; channel < CHANNELS; channel++) {
                if (made[played][channel] == NONE) {
                    made[played][channel] = own[cue][channel];
                }
            }
        }

        private void sortPlays() {
            playCount = 0;
            for (int place = 0; place < count; place++) {
                if (times[order[place]] != NONE) {
                    insertPlay(order[place]);
                }
            }
        }

        /** Puts a cue behind those with the same time, which are ahead of it in the order. */
        private void insertPlay(int cue) {
            int spot = playCount;
            while (spot > 0 && times[plays[spot - 1]] > times[cue]) {
                plays[spot] = plays[spot - 1];
                spot--;
            }
            plays[spot] = cue;
            playCount++;
        }

        int levelByFades(int channel, int time) {
            int from = 0;
            int to = 0;
            int begin = 0;
            int fade = 0;
            for (int play = 0; play < playCount && times[plays[play]] <= time; play++) {
                int cue = plays[play];
                if (made[cue][channel] != NONE) {
                    from = levelBehind(times[cue] - begin, fade, from, to);
                    to = made[cue][channel];
                    begin = times[cue];
                    fade = fades[cue];
                }
            }
            return levelBehind(time - begin, fade, from, to);
        }

        int levelByTicks(int channel, int time) {
            int level = 0;
            int from = 0;
            int to = 0;
            int passed = 0;
            int fade = 0;
            int play = 0;
            for (int second = 0; second <= time; second++) {
                level = levelBehind(passed, fade, from, to);
                while (play < playCount && times[plays[play]] == second) {
                    int cue = plays[play];
                    if (made[cue][channel] != NONE) {
                        from = level;
                        to = made[cue][channel];
                        passed = 0;
                        fade = fades[cue];
                        level = levelBehind(passed, fade, from, to);
                    }
                    play++;
                }
                passed++;
            }
            return level;
        }

        private static int levelBehind(int passed, int fade, int from, int to) {
            if (fade <= 0 || passed >= fade) {
                return to;
            }
            return from + (to - from) * passed / fade;
        }

        void fillLevels(int time, int[] row) {
            for (int channel = 0; channel < CHANNELS; channel++) {
                row[channel] = levelByFades(channel, time);
            }
        }
    }

    /** The lamps, where they are, and how they are worn. */
    private static final class Rig {
        private final int[] homes = new int[MOST_LAMPS];
        private final int[] homeAreas = new int[MOST_LAMPS];
        private final int[] colours = new int[MOST_LAMPS];
        private final int[] powers = new int[MOST_LAMPS];
        private final int[] stages = new int[MOST_LAMPS];
        private final int[] areas = new int[MOST_LAMPS];
        private final int[] wears = new int[MOST_LAMPS];
        private final int[] burnt = new int[MOST_LAMPS];
        private int count = 0;

        int append(int stage, int area, int colour, int power) {
            int lamp = count;
            homes[lamp] = stage;
            homeAreas[lamp] = area;
            colours[lamp] = colour;
            powers[lamp] = power;
            count++;
            putHome(lamp);
            return lamp;
        }

        boolean isHome(int lamp) {
            return stages[lamp] == homes[lamp];
        }

        boolean canGo(int lamp, int stage) {
            return isHome(lamp) && homes[lamp] != stage;
        }

        void put(int lamp, int stage, int area) {
            stages[lamp] = stage;
            areas[lamp] = area;
        }

        void putHome(int lamp) {
            put(lamp, homes[lamp], homeAreas[lamp]);
        }

        private boolean isFor(int lamp, int stage, int area) {
            return stages[lamp] == stage && areas[lamp] == area;
        }

        /** The set of lamps on which a channel of this area and colour is laid. */
        int lampsFor(int stage, int area, int colour) {
            int alike = 0;
            int all = 0;
            for (int lamp = 0; lamp < count; lamp++) {
                if (isFor(lamp, stage, area)) {
                    all |= 1 << lamp;
                    if (colours[lamp] == colour) {
                        alike |= 1 << lamp;
                    }
                }
            }
            return alike != 0 ? alike : all;
        }

        void lay(int stage, Patch patch, int[] laid) {
            for (int channel = 0; channel < CHANNELS; channel++) {
                laid[channel] = lampsFor(stage, patch.areas[channel], patch.colours[channel]);
            }
        }

        int levelOf(int lamp, int[] laid, int[] levels) {
            if (wears[lamp] >= DEAD_WEAR) {
                return 0;
            }
            int greatest = 0;
            for (int channel = 0; channel < CHANNELS; channel++) {
                if ((laid[channel] >> lamp & 1) != 0 && levels[channel] > greatest) {
                    greatest = levels[channel];
                }
            }
            return greatest;
        }

        int lightOf(int stage, int area, int[] laid, int[] levels) {
            int sum = 0;
            for (int lamp = 0; lamp < count; lamp++) {
                if (isFor(lamp, stage, area)) {
                    sum += levelOf(lamp, laid, levels) * powers[lamp] / 100;
                }
            }
            return sum < FULL ? sum : FULL;
        }

        void startBurning() {
            for (int lamp = 0; lamp < count; lamp++) {
                burnt[lamp] = 0;
            }
        }

        void burn(int stage, int[] laid, int[] levels) {
            for (int lamp = 0; lamp < count; lamp++) {
                if (stages[lamp] == stage && levelOf(lamp, laid, levels) > 0) {
                    burnt[lamp]++;
                }
            }
        }

        /** Kept apart from burn, so that no lamp dies while it plays. */
        void addBurnt() {
            for (int lamp = 0; lamp < count; lamp++) {
                wears[lamp] += burnt[lamp];
            }
        }
    }

    /** The logs of the performances. */
    private static final class Book {
        private final int[] stages = new int[MOST_LOGS];
        private final int[][] shorts = new int[MOST_LOGS][MOST_LINES];
        private int count = 0;

        int append(int stage) {
            stages[count] = stage;
            count++;
            return count - 1;
        }

        int countShortLogs(int line) {
            int found = 0;
            for (int log = 0; log < count; log++) {
                if (shorts[log][line] != 0) {
                    found++;
                }
            }
            return found;
        }
    }
}
