/** Small tours on which the tests begin. */
final class Tours {
    private Tours() {
    }

    static CueTour empty() {
        return new CueTour();
    }

    static CueTour withLines(int... seconds) {
        CueTour tour = new CueTour();
        for (int each : seconds) {
            tour.addLine(each);
        }
        return tour;
    }

    /** So many lines of 10 seconds, and nothing else. */
    static CueTour lines(int count) {
        CueTour tour = new CueTour();
        for (int line = 0; line < count; line++) {
            tour.addLine(10);
        }
        return tour;
    }

    /** So many cues of a line; each has a change to a level above 0 of a channel. */
    static CueTour cues(int count) {
        CueTour tour = lines(1);
        for (int cue = 0; cue < count; cue++) {
            tour.addCue(0, cue, 0);
            tour.change(cue, cue % 10, cue + 1);
        }
        return tour;
    }

    /** So many lamps, each at the stage of its number modulo 4, with a line that lights area 0. */
    static CueTour lamps(int count) {
        CueTour tour = cues(1);
        for (int lamp = 0; lamp < count; lamp++) {
            tour.addLamp(lamp % 4, 0, lamp % 3, 1 + lamp);
        }
        return tour;
    }

    /** The same with so many lamps, each borrowed by the next stage. */
    static CueTour borrowedLamps(int count) {
        CueTour tour = lamps(count);
        for (int lamp = 0; lamp < count; lamp++) {
            tour.borrow(lamp, (lamp + 1) % 4, 1);
        }
        return tour;
    }

    /** So many logs, each of the stage of its number modulo 4; the line was short of area 2. */
    static CueTour logs(int count) {
        CueTour tour = lines(1);
        tour.need(0, 2, 1);
        for (int log = 0; log < count; log++) {
            tour.perform(log % 4);
        }
        return tour;
    }

    /** So many lines that were short of area 2 in one log, if there are lines. */
    static CueTour loggedLines(int count) {
        CueTour tour = lines(count);
        for (int line = 0; line < count; line++) {
            tour.need(line, 2, 1);
        }
        if (count > 0) {
            tour.perform(0);
        }
        return tour;
    }

    /** A line of 10 seconds with channel 0 at this level, and a lamp of 100 for it on stage 0. */
    static CueTour lit(int level) {
        CueTour tour = lines(1);
        tour.addCue(0, 0, 0);
        tour.change(0, 0, level);
        tour.addLamp(0, 0, 0, 100);
        return tour;
    }

    /** A line of 30 seconds with channel 0 at 100, and a lamp for it with this wear, 0 to 330. */
    static CueTour worn(int wear) {
        CueTour tour = new CueTour();
        for (int line = 0; line < 11; line++) {
            tour.addLine(30);
        }
        tour.addCue(0, 0, 0);
        tour.change(0, 0, 100);
        tour.addLamp(0, 0, 0, 100);
        int dark = 330 - wear;
        int line = Math.min(10, dark / 30);
        tour.move(0, line, dark - 30 * line, 0);
        tour.perform(0);
        tour.move(0, 0, 0, 0);
        for (int later = 1; later < 11; later++) {
            tour.cut(later, true);
        }
        return tour;
    }

    /** Three lines of 10 seconds, two cues, two lamps at two stages, one log. */
    static CueTour small() {
        CueTour tour = withLines(10, 10, 10);
        tour.need(1, 0, 70);
        tour.need(2, 1, 5);
        tour.addCue(0, 2, 4);
        tour.change(0, 0, 80);
        tour.addCue(1, 0, 0);
        tour.change(1, 1, 40);
        tour.addLamp(0, 0, 0, 100);
        tour.addLamp(1, 1, 2, 50);
        tour.perform(0);
        return tour;
    }

    static CueTour withAllLines() {
        CueTour tour = new CueTour();
        for (int line = 0; line < 30; line++) {
            tour.addLine(1 + line % 30);
        }
        return tour;
    }

    static CueTour withAllCues() {
        CueTour tour = withLines(10, 10);
        for (int cue = 0; cue < 20; cue++) {
            tour.addCue(cue % 2, cue, 0);
        }
        return tour;
    }

    static CueTour withAllLamps() {
        CueTour tour = withLines(10);
        for (int lamp = 0; lamp < 20; lamp++) {
            tour.addLamp(lamp % 4, lamp % 3, lamp % 3, 1 + lamp);
        }
        return tour;
    }

    static CueTour withAllLogs() {
        CueTour tour = withLines(10);
        tour.addLamp(0, 0, 0, 100);
        tour.addCue(0, 0, 0);
        tour.change(0, 0, 50);
        for (int log = 0; log < 20; log++) {
            tour.perform(log % 4);
        }
        return tour;
    }

    /** As many lines, cues, lamps and logs as there may be: some 180 calls. */
    static CueTour full() {
        CueTour tour = new CueTour();
        for (int line = 0; line < 30; line++) {
            tour.addLine(1 + line % 5);
            tour.need(line, line % 4, 10 + line);
        }
        fullOfCues(tour);
        fullOfLamps(tour);
        tour.cut(4, true);
        tour.cut(7, true);
        tour.cut(29, true);
        for (int log = 0; log < 20; log++) {
            tour.perform(log * 3 % 4);
        }
        return tour;
    }

    private static void fullOfCues(CueTour tour) {
        for (int cue = 0; cue < 20; cue++) {
            tour.addCue(cue * 7 % 30, cue % 5, cue * 3 % 10);
            tour.change(cue, cue % 10, 5 * cue);
            tour.change(cue, (cue + 3) % 10, 100 - 4 * cue);
        }
        tour.setChannel(3, 2, 1);
        tour.setChannel(9, 0, 2);
    }

    private static void fullOfLamps(CueTour tour) {
        for (int lamp = 0; lamp < 20; lamp++) {
            tour.addLamp(lamp % 4, lamp / 4 % 4, lamp % 3, 1 + 2 * lamp);
        }
        tour.borrow(5, 0, 2);
        tour.borrow(10, 3, 1);
        tour.borrow(16, 1, 0);
    }

    /** The same with all lines cut. */
    static CueTour fullAllCut() {
        CueTour tour = full();
        for (int line = 0; line < 30; line++) {
            tour.cut(line, true);
        }
        return tour;
    }
}
