/** A test for each sentence about fades and levels: promises 17 and 18. */
final class FadeEdges {
    private final Due due;

    FadeEdges(Due due) {
        this.due = due;
    }

    void run() {
        beginnings();
        seconds();
        behindAllCues();
        levelAt();
        levelBySeconds();
    }

    /** The level, found in both ways. */
    private void level(String what, CueTour tour, int channel, int time, int level) {
        due.is(what + ", fade by fade", tour.levelAt(channel, time), level);
        due.is(what + ", second by second", tour.levelBySeconds(channel, time), level);
    }

    /** A line of 30 seconds; a cue to each of the levels, at these offsets, with these fades. */
    private static CueTour faded(int[]... cues) {
        CueTour tour = Tours.withLines(30);
        for (int cue = 0; cue < cues.length; cue++) {
            tour.addCue(0, cues[cue][0], cues[cue][1]);
            tour.change(cue, 0, cues[cue][2]);
        }
        return tour;
    }

    private static int[] cue(int offset, int fade, int level) {
        return new int[] {offset, fade, level};
    }

    private void beginnings() {
        due.term("At the time of a cue that is played, each channel that it changes begins a fade from the level"
                + " that it has then to the new one, in place of a fade that goes on; cues with the same time come in"
                + " their order.");
        CueTour broken = faded(cue(0, 10, 100), cue(9, 10, 0));
        level("in the last second of the first fade", broken, 0, 8, 80);
        level("from the level of then", broken, 0, 9, 90);
        level("on", broken, 0, 10, 81);
        level("over", broken, 0, 19, 0);
        broken.move(1, 0, 10, 10);
        level("behind the end of the first fade", broken, 0, 10, 100);
        level("on from it", broken, 0, 11, 90);
        broken.move(1, 0, 1, 0);
        level("at once, in place of the first fade", broken, 0, 1, 0);
        level("which does not go on", broken, 0, 5, 0);
        broken.change(1, 1, 50);
        broken.change(1, 0, CueTour.NONE);
        level("a cue of another channel", broken, 0, 5, 50);
        broken.change(1, 0, 10);
        level("to the level that it has", broken, 0, 1, 10);
        level("holds it", broken, 0, 10, 10);
        laterFades();
        sameTime();
    }

    /** A fade that ends first, though it began later, leaves no earlier one behind it. */
    private void laterFades() {
        CueTour tour = faded(cue(0, 60, 60), cue(10, 2, 90));
        level("the long one", tour, 0, 9, 9);
        level("at the short one's begin", tour, 0, 10, 10);
        level("the short one", tour, 0, 11, 50);
        level("its end", tour, 0, 12, 90);
        level("the end of the long one", tour, 0, 60, 90);
        tour.cut(0, true);
        level("not played", tour, 0, 12, 0);
        level("nor later", tour, 0, 2000, 0);
    }

    private void sameTime() {
        CueTour tour = Tours.withLines(5, 5);
        tour.addCue(1, 0, 0);
        tour.addCue(0, 5, 0);
        tour.change(0, 0, 10);
        tour.change(1, 0, 90);
        level("the later line's comes last", tour, 0, 5, 10);
        tour.move(0, 1, 0, 10);
        tour.change(0, 0, 0);
        level("its fade begins at the other's level", tour, 0, 5, 90);
        level("and goes on from it", tour, 0, 6, 81);
        CueTour numbers = faded(cue(3, 0, 50), cue(3, 0, 60), cue(3, 0, 70));
        level("the highest number comes last", numbers, 0, 3, 70);
        level("none ahead", numbers, 0, 2, 0);
        CueTour held = faded(cue(3, 4, 40), cue(3, 8, 40));
        level("two fades, the second one's begin", held, 0, 3, 0);
        level("the second one, not the first", held, 0, 5, 10);
        level("when the first would be over", held, 0, 7, 20);
        level("the second one's end", held, 0, 11, 40);
    }

    private void seconds() {
        due.term("Behind k seconds of a fade of n seconds (k up to n) the level is the one from which it began, and"
                + " the difference times k, divided by n, rounded toward 0, added; with n 0 it is the new one at"
                + " once.");
        int[][] pairs = {{0, 100}, {100, 0}, {3, 7}, {7, 3}, {0, 1}, {1, 0}, {99, 100}, {50, 50}, {66, 0}};
        for (int[] pair : pairs) {
            for (int fade = 0; fade <= 60; fade++) {
                wholeFade(pair[0], pair[1], fade);
            }
        }
        CueTour up = faded(cue(0, 0, 10), cue(1, 3, 20));
        level("up, 3 1/3", up, 0, 2, 13);
        level("up, 6 2/3", up, 0, 3, 16);
        level("up, all", up, 0, 4, 20);
        CueTour down = faded(cue(0, 0, 20), cue(1, 3, 10));
        level("down, 3 1/3", down, 0, 2, 17);
        level("down, 6 2/3", down, 0, 3, 14);
        level("down, all", down, 0, 4, 10);
    }

    private void wholeFade(int from, int to, int fade) {
        CueTour tour = faded(cue(0, 0, from), cue(1, fade, to));
        String what = "from " + from + " to " + to + " in " + fade + ", behind ";
        level("ahead of it", tour, 0, 0, from);
        for (int behind = 0; behind <= fade; behind++) {
            // Steps are counted up, so that nothing is divided here.
            int steps = 0;
            while (fade > 0 && (steps + 1) * fade <= Math.abs(to - from) * behind) {
                steps++;
            }
            int level = fade == 0 ? to : to > from ? from + steps : from - steps;
            level(what + behind, tour, 0, 1 + behind, level);
        }
        level(what + "its end", tour, 0, 2 + fade, to);
    }

    private void behindAllCues() {
        due.term("The level at a time is that behind all cues with this time.");
        CueTour tour = faded(cue(0, 0, 30), cue(4, 0, 60), cue(4, 0, 90));
        level("time 0", tour, 0, 0, 30);
        level("one second ahead", tour, 0, 3, 30);
        level("behind both", tour, 0, 4, 90);
        tour.change(2, 0, CueTour.NONE);
        level("behind the one", tour, 0, 4, 60);
        tour.move(1, 0, 4, 1);
        level("a fade of 1 begins", tour, 0, 4, 30);
        level("and is over", tour, 0, 5, 60);
        CueTour all = Tours.lines(1);
        for (int cue = 0; cue < 20; cue++) {
            all.addCue(0, 60, 0);
            all.change(cue, 3, 5 * cue);
        }
        level("ahead of all 20", all, 3, 59, 0);
        level("behind all 20", all, 3, 60, 95);
    }

    /** The last cue of the longest script ends its fade at 990. */
    private static CueTour longest() {
        CueTour tour = new CueTour();
        for (int line = 0; line < 30; line++) {
            tour.addLine(30);
        }
        tour.addCue(29, 60, 60);
        tour.change(0, 9, 100);
        return tour;
    }

    private void levelAt() {
        due.promise(17, "Returns the level of a channel at a time, found fade by fade.");
        CueTour tour = faded(cue(2, 4, 100), cue(20, 0, 5));
        int[] levels = {0, 0, 0, 25, 50, 75, 100, 100};
        for (int time = 0; time < levels.length; time++) {
            due.is("at " + time, tour.levelAt(0, time), levels[time]);
        }
        due.is("ahead of the next", tour.levelAt(0, 19), 100);
        due.is("at the next", tour.levelAt(0, 20), 5);
        due.is("of another channel", tour.levelAt(1, 20), 0);

        due.promise(17, "`channel`: 0 to 9");
        due.numbers(9, Tours::full, (t, v) -> t.levelAt(v, 30));
        due.numbers(9, Tours::empty, (t, v) -> t.levelAt(v, 0));

        due.promise(17, "`time`: 0 to 2000");
        due.range(0, 2000, Tours::small, (t, v) -> t.levelAt(9, v));
        due.is("0", Tours.lit(70).levelAt(0, 0), 70);
        due.is("2000", Tours.lit(70).levelAt(0, 2000), 70);

        due.promise(17, "Returns the level.");
        due.is("without lines", new CueTour().levelAt(9, 2000), 0);
        due.is("at the latest cue", longest().levelAt(9, 930), 0);
        due.is("in its fade", longest().levelAt(9, 989), 98);
        due.is("at its end", longest().levelAt(9, 990), 100);
        due.is("the most", longest().levelAt(9, 2000), 100);

        due.promise(17, "Throws `IndexOutOfBoundsException` if there is no such channel");
        due.noSuch("10, with a wrong time", Tours::small, t -> t.levelAt(10, 2001));
        due.noSuch("-1, with a wrong time", Tours::full, t -> t.levelAt(-1, -1));

        due.promise(17, "Throws `IllegalArgumentException` if time is out of range");
        due.outOfRange("-1", Tours::empty, t -> t.levelAt(0, -1));
        due.outOfRange("2001", Tours::full, t -> t.levelAt(9, 2001));
    }

    private void levelBySeconds() {
        due.promise(18, "Returns the same, found second by second.");
        for (int channel = 0; channel < 10; channel++) {
            CueTour tour = Tours.full();
            for (int time = 0; time <= 110; time++) {
                due.is(channel + " at " + time, tour.levelBySeconds(channel, time), tour.levelAt(channel, time));
            }
        }

        due.promise(18, "`channel`: 0 to 9");
        due.numbers(9, Tours::full, (t, v) -> t.levelBySeconds(v, 30));
        due.numbers(9, Tours::empty, (t, v) -> t.levelBySeconds(v, 0));

        due.promise(18, "`time`: 0 to 2000");
        due.range(0, 2000, Tours::small, (t, v) -> t.levelBySeconds(9, v));
        due.is("0", Tours.lit(70).levelBySeconds(0, 0), 70);
        due.is("2000", Tours.lit(70).levelBySeconds(0, 2000), 70);

        due.promise(18, "Returns the level.");
        due.is("without lines", new CueTour().levelBySeconds(9, 2000), 0);
        due.is("at the latest cue", longest().levelBySeconds(9, 930), 0);
        due.is("in its fade", longest().levelBySeconds(9, 989), 98);
        due.is("at its end", longest().levelBySeconds(9, 990), 100);
        due.is("the most", longest().levelBySeconds(9, 2000), 100);

        due.promise(18, "Throws `IndexOutOfBoundsException` if there is no such channel");
        due.noSuch("10, with a wrong time", Tours::small, t -> t.levelBySeconds(10, 2001));
        due.noSuch("-1, with a wrong time", Tours::full, t -> t.levelBySeconds(-1, -1));

        due.promise(18, "Throws `IllegalArgumentException` if time is out of range");
        due.outOfRange("-1", Tours::empty, t -> t.levelBySeconds(0, -1));
        due.outOfRange("2001", Tours::full, t -> t.levelBySeconds(9, 2001));
    }
}
