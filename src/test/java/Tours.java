/** Small tours on which the tests begin. */
final class Tours {
    private Tours() {
    }

    static CueTour empty() {
        return new CueTour();
    }

    static CueTour withLines(int... seconds) {
        CueTour tour = new CueTour();
        for (int each : seconds) {
            tour.addLine(each);
        }
        return tour;
    }

    /** Three lines of 10 seconds, two cues, two lamps at two stages, one log. */
    static CueTour small() {
        CueTour tour = withLines(10, 10, 10);
        tour.need(1, 0, 70);
        tour.need(2, 1, 5);
        tour.addCue(0, 2, 4);
        tour.change(0, 0, 80);
        tour.addCue(1, 0, 0);
        tour.change(1, 1, 40);
        tour.addLamp(0, 0, 0, 100);
        tour.addLamp(1, 1, 2, 50);
        tour.perform(0);
        return tour;
    }

    static CueTour withAllLines() {
        CueTour tour = new CueTour();
        for (int line = 0; line < 30; line++) {
            tour.addLine(1 + line % 30);
        }
        return tour;
    }

    static CueTour withAllCues() {
        CueTour tour = withLines(10, 10);
        for (int cue = 0; cue < 20; cue++) {
            tour.addCue(cue % 2, cue, 0);
        }
        return tour;
    }

    static CueTour withAllLamps() {
        CueTour tour = withLines(10);
        for (int lamp = 0; lamp < 20; lamp++) {
            tour.addLamp(lamp % 4, lamp % 3, lamp % 3, 1 + lamp);
        }
        return tour;
    }

    static CueTour withAllLogs() {
        CueTour tour = withLines(10);
        tour.addLamp(0, 0, 0, 100);
        tour.addCue(0, 0, 0);
        tour.change(0, 0, 50);
        for (int log = 0; log < 20; log++) {
            tour.perform(log % 4);
        }
        return tour;
    }
}
