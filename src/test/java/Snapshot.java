import java.util.ArrayList;
import java.util.List;
import java.util.function.Consumer;
import java.util.function.Supplier;

/**
 * What an object tells of its state, as texts. Where only a setter tells a value, it is set and put
 * back, or the part is the last thing that is asked of its object. Each part is asked of an object
 * of its own, so that no object takes more than 512 calls.
 */
final class Snapshot {
    private static final int PARTS = 10;

    private Snapshot() {
    }

    /** The parts of what a maker makes, each behind the same call. */
    static List<String> of(Supplier<CueTour> maker, Consumer<CueTour> call) {
        List<String> parts = new ArrayList<>();
        for (int part = 0; part < PARTS; part++) {
            CueTour tour = maker.get();
            call.accept(tour);
            parts.add(part(tour, part));
        }
        return parts;
    }

    private static String part(CueTour tour, int part) {
        StringBuilder out = new StringBuilder();
        switch (part) {
            case 0 -> script(tour, out);
            case 1 -> ownChanges(tour, out, 0, 5);
            case 2 -> ownChanges(tour, out, 5, 10);
            case 3 -> cues(tour, out);
            case 4 -> levels(tour, out);
            case 5 -> levelsOfAllLines(tour, out);
            case 6 -> lamps(tour, out);
            case 7 -> lampsAtHome(tour, out);
            case 8 -> logs(tour, out, 0, 10);
            default -> logs(tour, out, 10, 20);
        }
        return out.toString();
    }

    private static void script(CueTour tour, StringBuilder out) {
        int lines = tour.lines();
        out.append(lines).append(" lines, ").append(tour.length()).append(" seconds");
        for (int line = 0; line < lines; line++) {
            out.append("; ").append(tour.startOf(line)).append(" needs");
            for (int area = 0; area < 4; area++) {
                int need = tour.need(line, area, 0);
                tour.need(line, area, need);
                out.append(' ').append(need);
            }
        }
    }

    private static void ownChanges(CueTour tour, StringBuilder out, int from, int to) {
        out.append("channels");
        for (int channel = from; channel < to; channel++) {
            int set = tour.setChannel(channel, 0, 0);
            tour.setChannel(channel, set / 10, set % 10);
            out.append(' ').append(set);
        }
        int cues = tour.cues();
        for (int cue = 0; cue < cues; cue++) {
            out.append("; cue ").append(cue).append(" to");
            for (int channel = from; channel < to; channel++) {
                int own = tour.change(cue, channel, CueTour.NONE);
                tour.change(cue, channel, own);
                out.append(' ').append(own);
            }
        }
    }

    private static void cues(CueTour tour, StringBuilder out) {
        int count = tour.cues();
        out.append(count).append(" cues");
        for (int cue = 0; cue < count; cue++) {
            out.append("; ").append(tour.cueAt(cue)).append(" at ").append(tour.timeOf(cue));
            out.append(" into ").append(tour.foldedInto(cue)).append(':');
            for (int channel = 0; channel < 10; channel++) {
                out.append(' ').append(tour.changes(cue, channel));
            }
        }
    }

    private static void levels(CueTour tour, StringBuilder out) {
        out.append("levels");
        for (int channel = 0; channel < 10; channel++) {
            for (int time = 0; time <= 120; time += 10) {
                out.append(' ').append(tour.levelAt(channel, time));
            }
            out.append('/').append(tour.levelBySeconds(channel, 35));
        }
    }

    /** With all lines taken in, so that the cues of cut ones tell their offsets and fades too. */
    private static void levelsOfAllLines(CueTour tour, StringBuilder out) {
        int lines = tour.lines();
        for (int line = 0; line < lines; line++) {
            tour.cut(line, false);
        }
        int cues = tour.cues();
        for (int cue = 0; cue < cues; cue++) {
            out.append("; ").append(tour.timeOf(cue));
        }
        levels(tour, out);
    }

    private static void lamps(CueTour tour, StringBuilder out) {
        int count = tour.lamps();
        out.append(count).append(" lamps");
        for (int lamp = 0; lamp < count; lamp++) {
            out.append("; ").append(tour.whereIs(lamp)).append(" worn ").append(tour.wear(lamp));
            out.append(" at ").append(tour.lampLevel(lamp, 3)).append('/').append(tour.lampLevel(lamp, 30));
        }
        for (int stage = 0; stage < 4; stage++) {
            out.append("; laid");
            for (int channel = 0; channel < 10; channel++) {
                out.append(' ').append(tour.laidOn(stage, channel));
            }
            for (int area = 0; area < 4; area++) {
                out.append(' ').append(tour.light(stage, area, 5)).append('/').append(tour.light(stage, area, 40));
            }
        }
        shorts(tour, out);
    }

    private static void shorts(CueTour tour, StringBuilder out) {
        int lines = tour.lines();
        for (int line = 0; line < lines && line < 12; line++) {
            out.append("; short ").append(tour.shortOf(line % 4, line));
        }
        out.append("; best ").append(tour.bestStage()).append(' ').append(tour.bestToBorrow(0, 2));
    }

    /** With new burners and all lamps at home, so that borrowed and dead ones tell their areas too. */
    private static void lampsAtHome(CueTour tour, StringBuilder out) {
        int count = tour.lamps();
        for (int lamp = 0; lamp < count; lamp++) {
            out.append(' ').append(tour.replace(lamp));
            try {
                out.append('/').append(tour.bringBack(lamp));
            } catch (IllegalStateException atHome) {
                out.append("/home");
            }
        }
        // A channel at 100 for each colour, so that each lamp gives all its power.
        int cues = tour.cues();
        for (int cue = 0; cue < cues; cue++) {
            for (int channel = 0; channel < 3; channel++) {
                tour.change(cue, channel, 100);
            }
        }
        for (int area = 0; area < 4; area++) {
            for (int channel = 0; channel < 3; channel++) {
                tour.setChannel(channel, area, channel);
            }
            for (int stage = 0; stage < 4; stage++) {
                out.append("; ").append(tour.light(stage, area, 2000));
                for (int channel = 0; channel < 3; channel++) {
                    out.append(' ').append(tour.laidOn(stage, channel));
                }
            }
        }
    }

    private static void logs(CueTour tour, StringBuilder out, int from, int to) {
        int count = tour.logs();
        int lines = tour.lines();
        out.append(count).append(" logs");
        for (int log = from; log < count && log < to; log++) {
            out.append("; on ").append(tour.stageOf(log));
            for (int line = 0; line < lines && line < 25; line++) {
                out.append(' ').append(tour.wasShortOf(log, line));
            }
        }
        for (int line = 0; line < lines; line++) {
            out.append(' ').append(tour.timesShort(line));
        }
    }
}
