/**
 * What an object tells of its state, as a text. Where only a setter tells a value, it is set and
 * put back. Stays below 512 calls for the small tours of the tests, if a part is left out for what
 * is not there.
 */
final class Snapshot {
    private Snapshot() {
    }

    static String of(CueTour tour) {
        StringBuilder out = new StringBuilder();
        script(tour, out);
        channels(tour, out);
        cues(tour, out);
        lamps(tour, out);
        logs(tour, out);
        return out.toString();
    }

    private static void script(CueTour tour, StringBuilder out) {
        out.append(tour.lines()).append(" lines, ").append(tour.length()).append(" seconds");
        // A full script is told by its starts alone, so that the calls stay few.
        int areas = tour.lines() > 10 ? 0 : 4;
        for (int line = 0; line < tour.lines(); line++) {
            out.append("; ").append(tour.startOf(line)).append(" needs");
            for (int area = 0; area < areas; area++) {
                int need = tour.need(line, area, 0);
                tour.need(line, area, need);
                out.append(' ').append(need);
            }
        }
    }

    private static void channels(CueTour tour, StringBuilder out) {
        out.append("; channels");
        for (int channel = 0; channel < 10; channel++) {
            int set = tour.setChannel(channel, 0, 0);
            tour.setChannel(channel, set / 10, set % 10);
            out.append(' ').append(set);
        }
    }

    private static void cues(CueTour tour, StringBuilder out) {
        out.append("; ").append(tour.cues()).append(" cues");
        // All twenty cues are told by place and time alone.
        int channels = tour.cues() > 5 ? 0 : 6;
        for (int cue = 0; cue < tour.cues(); cue++) {
            out.append("; ").append(tour.cueAt(cue)).append(" at ").append(tour.timeOf(cue));
            out.append(" into ").append(tour.foldedInto(cue)).append(':');
            for (int channel = 0; channel < channels; channel++) {
                int own = tour.change(cue, channel, CueTour.NONE);
                tour.change(cue, channel, own);
                out.append(' ').append(own).append('/').append(tour.changes(cue, channel));
            }
        }
        out.append("; levels");
        for (int time = 0; time <= 40; time += 10) {
            out.append(' ').append(tour.levelAt(0, time)).append('/').append(tour.levelAt(1, time));
        }
    }

    private static void lamps(CueTour tour, StringBuilder out) {
        out.append("; ").append(tour.lamps()).append(" lamps");
        for (int lamp = 0; lamp < tour.lamps(); lamp++) {
            out.append("; ").append(tour.whereIs(lamp)).append(" worn ").append(tour.wear(lamp));
        }
        for (int stage = 0; stage < 4; stage++) {
            for (int area = 0; area < 4; area++) {
                out.append(' ').append(tour.laidOn(stage, area)).append('/').append(tour.light(stage, area, 10));
            }
        }
    }

    private static void logs(CueTour tour, StringBuilder out) {
        out.append("; ").append(tour.logs()).append(" logs");
        for (int log = 0; log < tour.logs(); log++) {
            out.append("; on ").append(tour.stageOf(log));
            for (int line = 0; line < tour.lines() && line < 4; line++) {
                out.append(' ').append(tour.wasShortOf(log, line));
            }
        }
        for (int line = 0; line < tour.lines() && line < 4; line++) {
            out.append(' ').append(tour.timesShort(line));
        }
    }
}
