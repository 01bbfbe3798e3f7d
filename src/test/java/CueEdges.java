/** A test for each sentence about channels, cues, their order and folding: promises 8 to 16. */
final class CueEdges {
    private static final int NONE = CueTour.NONE;

    private final Due due;

    CueEdges(Due due) {
        this.due = due;
    }

    void run() {
        channelsAtFirst();
        levelsOfChannels();
        numbersOfCues();
        partsOfCues();
        order();
        times();
        unlikeTimes();
        folding();
        effectiveChanges();
        setChannel();
        addCue();
        move();
        change();
        cues();
        cueAt();
        timeOf();
        foldedInto();
        changes();
    }

    private void channelsAtFirst() {
        due.term("Channels are 0 to 9; a channel is for an area, at first the channel modulo 4, and has a colour,"
                + " 0 to 2, at first 0.");
        int[] areas = {0, 1, 2, 3, 0, 1, 2, 3, 0, 1};
        CueTour tour = new CueTour();
        for (int channel = 0; channel < 10; channel++) {
            due.is("area and colour of " + channel, tour.setChannel(channel, 0, 0), 10 * areas[channel]);
        }
        due.numbers(9, Tours::small, (t, v) -> t.setChannel(v, 0, 0));
        CueTour lamps = Tours.lines(1);
        for (int area = 0; area < 4; area++) {
            lamps.addLamp(0, area, 1, 1);
            lamps.addLamp(0, area, 0, 1);
        }
        for (int channel = 0; channel < 10; channel++) {
            due.is("laid by area and colour 0", lamps.laidOn(0, channel), 2 << 2 * areas[channel]);
        }
    }

    private void levelsOfChannels() {
        due.term("Its level is 0 to 100, and 0 ahead of all cues.");
        CueTour tour = Tours.lines(2);
        tour.addCue(0, 1, 0);
        tour.addCue(1, 0, 0);
        for (int channel = 0; channel < 10; channel++) {
            tour.change(0, channel, 100);
            tour.change(1, channel, 0);
        }
        for (int channel = 0; channel < 10; channel++) {
            due.is("in the second ahead of the cue", tour.levelAt(channel, 0), 0);
            due.is("the most", tour.levelAt(channel, 1), 100);
            due.is("still", tour.levelBySeconds(channel, 9), 100);
            due.is("the least", tour.levelAt(channel, 10), 0);
        }
        due.is("without cues", new CueTour().levelAt(9, 2000), 0);
    }

    private void numbersOfCues() {
        due.term("Cues are numbered from 0, at most 20.");
        CueTour tour = Tours.lines(1);
        for (int cue = 0; cue < 20; cue++) {
            due.is("cues ahead of it", tour.cues(), cue);
            due.is("its number", tour.addCue(0, 20 - cue, 0), cue);
        }
        due.is("all cues", tour.cues(), 20);
        due.takes("the cue 19", () -> Tours.cues(20), t -> t.timeOf(19));
        due.notNow("a cue 20", () -> Tours.cues(20), t -> t.addCue(0, 0, 0));
    }

    private void partsOfCues() {
        due.term("A cue is of a line, has an offset and a fade in seconds, and changes of some channels, each to a"
                + " level.");
        CueTour tour = Tours.lines(3);
        tour.addCue(2, 4, 5);
        tour.change(0, 0, 50);
        tour.change(0, 9, 100);
        due.is("line", tour.move(0, 2, 4, 5), 2);
        due.is("offset", tour.timeOf(0), 24);
        due.is("fade", tour.levelAt(0, 25), 10);
        due.is("a change", tour.changes(0, 0), 50);
        due.is("another", tour.changes(0, 9), 100);
        due.is("none", tour.changes(0, 1), NONE);
    }

    private void order() {
        due.term("The order of cues is by their lines, those of one line by their offsets, those with the same"
                + " offset by their numbers.");
        CueTour tour = Tours.withLines(1, 1, 1);
        tour.addCue(1, 0, 60);
        tour.addCue(0, 60, 60);
        inOrder(tour, 1, 0);
        tour.move(1, 1, 1, 0);
        inOrder(tour, 0, 1);
        tour.move(0, 1, 1, 60);
        inOrder(tour, 0, 1);
        tour.move(0, 1, 2, 0);
        inOrder(tour, 1, 0);
        tour.move(1, 2, 0, 0);
        inOrder(tour, 0, 1);
        CueTour same = Tours.lines(1);
        for (int cue = 0; cue < 20; cue++) {
            same.addCue(0, 7, 20 - cue);
        }
        for (int place = 0; place < 20; place++) {
            due.is("of all with the same offset", same.cueAt(place), place);
        }
        CueTour back = Tours.lines(20);
        for (int cue = 0; cue < 20; cue++) {
            back.addCue(19 - cue, cue, 0);
        }
        for (int place = 0; place < 20; place++) {
            due.is("of all with lines that go back", back.cueAt(place), 19 - place);
        }
    }

    private void inOrder(CueTour tour, int... cues) {
        for (int place = 0; place < cues.length; place++) {
            due.is("at place " + place, tour.cueAt(place), cues[place]);
        }
    }

    private void times() {
        due.term("A cue is played if its line is not cut; its time is the start of its line and its offset, added.");
        CueTour tour = Tours.withLines(6, 7);
        tour.addCue(0, 0, 9);
        tour.addCue(1, 0, 9);
        tour.addCue(1, 60, 9);
        due.is("start 0, offset 0", tour.timeOf(0), 0);
        due.is("start 6, offset 0", tour.timeOf(1), 6);
        due.is("start 6, offset 60", tour.timeOf(2), 66);
        tour.cut(0, true);
        due.is("not played", tour.timeOf(0), NONE);
        due.is("start 0 then", tour.timeOf(2), 60);
        tour.cut(0, false);
        tour.cut(1, true);
        due.is("played again", tour.timeOf(0), 0);
        due.is("not played now", tour.timeOf(1), NONE);
        due.is("nor the other one of the line", tour.timeOf(2), NONE);
    }

    private void unlikeTimes() {
        due.term("(So a cue may be played when its line is over; and one that comes later in the order may have an"
                + " earlier time.)");
        CueTour tour = Tours.withLines(5, 5);
        tour.addCue(0, 4, 0);
        due.is("in the line's last second", tour.timeOf(0), 4);
        tour.move(0, 0, 5, 0);
        due.is("when the line is over", tour.timeOf(0), 5);
        tour.move(0, 0, 60, 0);
        due.is("when the script is over", tour.timeOf(0), 60);
        tour.addCue(1, 54, 0);
        inOrder(tour, 0, 1);
        due.is("later in the order, earlier", tour.timeOf(1), 59);
        tour.change(0, 0, 10);
        tour.change(1, 0, 20);
        due.is("ahead of both", tour.levelAt(0, 58), 0);
        due.is("the later one in the order is played", tour.levelAt(0, 59), 20);
        due.is("then the earlier one in the order", tour.levelAt(0, 60), 10);
        due.is("which stays", tour.levelAt(0, 61), 10);
        goingBack();
    }

    /** Twenty cues, each later in the order and a second earlier than the one ahead of it. */
    private void goingBack() {
        CueTour tour = new CueTour();
        for (int cue = 0; cue < 20; cue++) {
            tour.addLine(1);
            tour.addCue(cue, 60 - 2 * cue, 0);
            tour.change(cue, 0, 5 * cue);
        }
        due.is("the first in the order", tour.timeOf(0), 60);
        due.is("the last in the order", tour.timeOf(19), 41);
        due.is("ahead of all", tour.levelAt(0, 40), 0);
        for (int time = 41; time <= 60; time++) {
            int level = 5 * (60 - time);
            due.is("level at " + time, tour.levelAt(0, time), level);
            due.is("second by second", tour.levelBySeconds(0, time), level);
        }
        tour.move(10, 10, 60, 0);
        due.is("one is moved behind all", tour.levelAt(0, 70), 50);
        due.is("the one ahead of it goes on for a second", tour.levelAt(0, 50), 55);
        due.is("then the next", tour.levelAt(0, 51), 45);
    }

    private void folding() {
        due.term("A cue that is not played is folded into the next one in the order that is played; if there is"
                + " none, it is lost.");
        CueTour tour = Tours.withLines(5, 5, 5);
        tour.addCue(2, 0, 0);
        tour.addCue(1, 0, 0);
        tour.addCue(0, 9, 0);
        tour.addCue(0, 0, 0);
        tour.cut(0, true);
        due.is("the first in the order", tour.foldedInto(3), 1);
        due.is("the second", tour.foldedInto(2), 1);
        tour.cut(1, true);
        due.is("over one that is not played", tour.foldedInto(3), 0);
        due.is("that one too", tour.foldedInto(1), 0);
        tour.cut(2, true);
        due.is("all are lost", tour.foldedInto(3), NONE);
        due.is("the last is lost", tour.foldedInto(0), NONE);
        tour.cut(0, false);
        due.is("not into one ahead", tour.foldedInto(1), NONE);
        due.is("nor the last", tour.foldedInto(0), NONE);
        due.is("played", tour.foldedInto(3), 3);
        tour.change(0, 0, 100);
        due.is("what is lost changes nothing", tour.levelAt(0, 2000), 0);
    }

    private void effectiveChanges() {
        due.term("A cue that is played changes each channel for which it has a change itself, or else one of those"
                + " has that are folded into it, of these the last one in the order; to that level.");
        CueTour tour = Tours.withLines(5, 5);
        tour.addCue(1, 0, 0);
        tour.addCue(0, 1, 0);
        tour.addCue(0, 1, 0);
        tour.addCue(0, 0, 0);
        for (int cue = 1; cue < 4; cue++) {
            tour.change(cue, 0, 10 * cue);
        }
        tour.change(3, 1, 0);
        tour.change(0, 2, 70);
        due.is("none is folded", tour.changes(0, 0), NONE);
        tour.cut(0, true);
        due.is("the last of three", tour.changes(0, 0), 20);
        due.is("the only one that has it", tour.changes(0, 1), 0);
        due.is("its own", tour.changes(0, 2), 70);
        due.is("nobody's", tour.changes(0, 3), NONE);
        tour.change(2, 0, NONE);
        due.is("the last of two, by its number", tour.changes(0, 0), 10);
        tour.change(1, 0, NONE);
        due.is("the first in the order", tour.changes(0, 0), 30);
        tour.change(0, 0, 0);
        due.is("its own, to 0", tour.changes(0, 0), 0);
        due.is("the level", tour.levelAt(0, 0), 0);
        tour.change(0, 0, NONE);
        due.is("the level of the folded one", tour.levelAt(0, 0), 30);
    }

    private void setChannel() {
        due.promise(8, "Sets a channel.");
        CueTour tour = Tours.lines(1);
        tour.addLamp(0, 0, 0, 1);
        tour.addLamp(0, 3, 2, 1);
        tour.addLamp(0, 3, 1, 1);
        due.is("area 0 at first", tour.laidOn(0, 8), 1);
        tour.setChannel(8, 3, 2);
        due.is("area 3, colour 2", tour.laidOn(0, 8), 2);
        due.is("not another channel", tour.laidOn(0, 4), 1);
        tour.setChannel(8, 3, 0);
        due.is("a colour that no lamp has", tour.laidOn(0, 8), 6);

        due.promise(8, "`channel`: 0 to 9");
        due.numbers(9, Tours::full, (t, v) -> t.setChannel(v, 1, 1));

        due.promise(8, "`area`: 0 to 3");
        due.numbers(3, Tours::small, (t, v) -> t.setChannel(9, v, 1));

        due.promise(8, "`colour`: 0 to 2");
        due.range(0, 2, Tours::small, (t, v) -> t.setChannel(0, 3, v));

        due.promise(8, "Returns 10 times its area before, and its colour before, added.");
        CueTour told = new CueTour();
        due.is("area 1, colour 0 at first", told.setChannel(9, 3, 2), 10);
        due.is("area 3, colour 2", told.setChannel(9, 0, 0), 32);
        due.is("area 0, colour 0", told.setChannel(9, 0, 1), 0);
        due.is("area 0, colour 1", told.setChannel(9, 0, 1), 1);
        due.is("another channel", told.setChannel(3, 0, 0), 30);

        due.promise(8, "Throws `IndexOutOfBoundsException` if there is no such channel or area");
        due.noSuch("channel 10", Tours::empty, t -> t.setChannel(10, 0, 0));
        due.noSuch("area 4", Tours::empty, t -> t.setChannel(0, 4, 0));
        due.noSuch("channel, with a wrong colour", Tours::small, t -> t.setChannel(-1, 0, 3));
        due.noSuch("area, with a wrong colour", Tours::small, t -> t.setChannel(9, -1, -1));

        due.promise(8, "Throws `IllegalArgumentException` if colour is out of range");
        due.outOfRange("-1", Tours::full, t -> t.setChannel(9, 3, -1));
        due.outOfRange("3", Tours::full, t -> t.setChannel(9, 3, 3));
    }

    private void addCue() {
        due.promise(9, "Adds a cue without changes.");
        CueTour tour = Tours.cues(19);
        tour.addCue(0, 3, 5);
        for (int channel = 0; channel < 10; channel++) {
            due.is("no change", tour.changes(19, channel), NONE);
            due.is("none of its own", tour.change(19, channel, NONE), NONE);
        }
        due.is("cues", tour.cues(), 20);
        due.is("its place", tour.cueAt(4), 19);
        due.is("its time", tour.timeOf(19), 3);
        due.is("of a cut line", cueOfCutLine().timeOf(0), NONE);

        due.promise(9, "`line`: a line");
        due.numbersOf(30, Tours::lines, (t, v) -> t.addCue(v, 1, 1));

        due.promise(9, "`offset`: 0 to 60");
        due.range(0, 60, Tours::small, (t, v) -> t.addCue(2, v, 1));
        due.is("60", cueWith(60, 0).timeOf(0), 60);
        due.is("0", cueWith(0, 60).timeOf(0), 0);

        due.promise(9, "`fade`: 0 to 60");
        due.range(0, 60, Tours::small, (t, v) -> t.addCue(2, 1, v));
        due.is("60, not over", cueWith(0, 60).levelAt(0, 59), 98);
        due.is("60, over", cueWith(0, 60).levelAt(0, 60), 100);
        due.is("0, at once", cueWith(0, 0).levelAt(0, 0), 100);

        due.promise(9, "Returns its number.");
        CueTour counted = Tours.lines(2);
        due.is("the first", counted.addCue(1, 60, 60), 0);
        due.is("the second, ahead of it in the order", counted.addCue(0, 0, 0), 1);
        counted.cut(0, true);
        due.is("the third, not played", counted.addCue(0, 0, 0), 2);
        due.is("the last", Tours.cues(19).addCue(0, 0, 0), 19);

        due.promise(9, "Throws `IndexOutOfBoundsException` if there is no such line");
        due.noSuch("no lines", Tours::empty, t -> t.addCue(0, 0, 0));
        due.noSuch("with a wrong offset", Tours::small, t -> t.addCue(3, 61, 0));
        due.noSuch("with a wrong fade", Tours::small, t -> t.addCue(-1, 0, -1));
        due.noSuch("there are 20 too", Tours::full, t -> t.addCue(30, 0, 0));

        due.promise(9, "Throws `IllegalArgumentException` if offset or fade is out of range");
        due.outOfRange("offset 61", () -> Tours.lines(3), t -> t.addCue(2, 61, 60));
        due.outOfRange("fade 61", () -> Tours.lines(3), t -> t.addCue(2, 60, 61));
        due.outOfRange("offset, there are 20 too", Tours::full, t -> t.addCue(0, -1, 0));
        due.outOfRange("fade, there are 20 too", Tours::full, t -> t.addCue(0, 0, 61));

        due.promise(9, "Throws `IllegalStateException` if there are 20");
        due.takes("there are 19", () -> Tours.cues(19), t -> t.addCue(0, 60, 60));
        due.notNow("there are 20", () -> Tours.cues(20), t -> t.addCue(0, 60, 60));
        due.notNow("all is full", Tours::full, t -> t.addCue(29, 0, 0));
        due.notNow("none of the 20 is played", Tours::fullAllCut, t -> t.addCue(29, 0, 0));
    }

    /** A line of 10 seconds, and a cue that changes channel 0 to 100. */
    private static CueTour cueWith(int offset, int fade) {
        CueTour tour = Tours.lines(1);
        tour.addCue(0, offset, fade);
        tour.change(0, 0, 100);
        return tour;
    }

    private static CueTour cueOfCutLine() {
        CueTour tour = Tours.lines(1);
        tour.cut(0, true);
        tour.addCue(0, 1, 0);
        return tour;
    }

    private void move() {
        due.promise(10, "Moves a cue to another line, with another offset and fade.");
        CueTour tour = Tours.lines(3);
        tour.addCue(0, 1, 0);
        tour.addCue(1, 0, 0);
        tour.change(0, 0, 60);
        tour.change(0, 9, 30);
        tour.move(0, 1, 5, 6);
        due.is("time", tour.timeOf(0), 15);
        due.is("place", tour.cueAt(1), 0);
        due.is("fade", tour.levelAt(0, 16), 10);
        due.is("changes stay", tour.changes(0, 9), 30);
        due.is("of each channel", tour.changes(0, 0), 60);
        due.is("the other one stays", tour.timeOf(1), 10);
        tour.cut(2, true);
        tour.move(0, 2, 0, 0);
        due.is("to a cut line", tour.timeOf(0), NONE);
        due.is("lost there", tour.foldedInto(0), NONE);
        tour.move(0, 1, 0, 0);
        due.is("to the same line and offset as another", tour.cueAt(0), 0);

        due.promise(10, "`cue`: a cue");
        due.numbersOf(20, Tours::cues, (t, v) -> t.move(v, 0, 1, 1));

        due.promise(10, "`line`: a line");
        due.numbers(0, () -> Tours.cues(1), (t, v) -> t.move(0, v, 1, 1));
        due.numbers(2, Tours::small, (t, v) -> t.move(1, v, 1, 1));
        due.numbers(29, Tours::full, (t, v) -> t.move(19, v, 1, 1));

        due.promise(10, "`offset`: 0 to 60");
        due.range(0, 60, Tours::small, (t, v) -> t.move(1, 2, v, 1));
        due.is("60", moved(60, 0).timeOf(0), 60);
        due.is("0", moved(0, 60).timeOf(0), 0);

        due.promise(10, "`fade`: 0 to 60");
        due.range(0, 60, Tours::small, (t, v) -> t.move(1, 2, 1, v));
        due.is("60, not over", moved(0, 60).levelAt(0, 59), 98);
        due.is("60, over", moved(0, 60).levelAt(0, 60), 100);
        due.is("0, at once", moved(0, 0).levelAt(0, 0), 100);

        due.promise(10, "Returns the line before.");
        CueTour told = Tours.lines(30);
        told.addCue(29, 0, 0);
        due.is("the last line", told.move(0, 0, 60, 60), 29);
        due.is("the first line", told.move(0, 0, 0, 0), 0);
        due.is("the same line", told.move(0, 1, 0, 0), 0);
        told.cut(1, true);
        due.is("a cut line", told.move(0, 2, 0, 0), 1);

        due.promise(10, "Throws `IndexOutOfBoundsException` if there is no such cue or line");
        due.noSuch("no cues", () -> Tours.lines(1), t -> t.move(0, 0, 0, 0));
        due.noSuch("no lines either", Tours::empty, t -> t.move(0, 0, 0, 0));
        due.noSuch("cue, with a wrong offset", Tours::small, t -> t.move(2, 0, 61, 0));
        due.noSuch("line, with a wrong fade", Tours::small, t -> t.move(1, 3, 0, 61));
        due.noSuch("cue 20", Tours::full, t -> t.move(20, 29, 0, 0));
        due.noSuch("line 30", Tours::full, t -> t.move(19, 30, 0, 0));

        due.promise(10, "Throws `IllegalArgumentException` if offset or fade is out of range");
        due.outOfRange("offset -1", Tours::full, t -> t.move(19, 29, -1, 0));
        due.outOfRange("offset 61", Tours::full, t -> t.move(19, 29, 61, 0));
        due.outOfRange("fade -1", Tours::full, t -> t.move(19, 29, 0, -1));
        due.outOfRange("fade 61", Tours::full, t -> t.move(19, 29, 0, 61));
    }

    private static CueTour moved(int offset, int fade) {
        CueTour tour = cueWith(5, 5);
        tour.move(0, 0, offset, fade);
        return tour;
    }

    private void change() {
        due.promise(11, "Sets to which level a cue changes a channel.");
        CueTour tour = Tours.lines(1);
        tour.addCue(0, 0, 0);
        tour.addCue(0, 1, 0);
        tour.change(1, 9, 55);
        due.is("the channel", tour.changes(1, 9), 55);
        due.is("not another", tour.changes(1, 8), NONE);
        due.is("not another cue", tour.changes(0, 9), NONE);
        due.is("its level", tour.levelAt(9, 1), 55);
        due.is("ahead of it", tour.levelAt(9, 0), 0);
        tour.change(0, 9, 44);
        due.is("two cues", tour.levelAt(9, 0), 44);

        due.promise(11, "`cue`: a cue");
        due.numbersOf(20, Tours::cues, (t, v) -> t.change(v, 0, 50));

        due.promise(11, "`channel`: 0 to 9");
        due.numbers(9, Tours::small, (t, v) -> t.change(1, v, 50));

        due.promise(11, "`level`: 0 to 100; NONE, so that it has no change of it");
        due.range(-1, 100, Tours::small, (t, v) -> t.change(0, 0, v));
        CueTour levels = Tours.lit(60);
        levels.addCue(0, 5, 0);
        levels.change(1, 0, 0);
        due.is("0 is a change", levels.levelAt(0, 5), 0);
        levels.change(1, 0, 100);
        due.is("100 is a change", levels.levelAt(0, 5), 100);
        levels.change(1, 0, NONE);
        due.is("NONE is none", levels.levelAt(0, 5), 60);
        due.is("there is none", levels.changes(1, 0), NONE);

        due.promise(11, "Returns the level before; NONE.");
        CueTour told = Tours.lines(2);
        told.addCue(0, 0, 0);
        told.addCue(1, 0, 0);
        due.is("none at first", told.change(0, 9, 0), NONE);
        due.is("0", told.change(0, 9, 100), 0);
        due.is("100", told.change(0, 9, NONE), 100);
        due.is("none again", told.change(0, 9, 7), NONE);
        told.cut(0, true);
        due.is("what is folded into it does not count", told.change(1, 9, NONE), NONE);
        due.is("of one that is not played", told.change(0, 9, 8), 7);

        due.promise(11, "Throws `IndexOutOfBoundsException` if there is no such cue or channel");
        due.noSuch("no cues", () -> Tours.lines(1), t -> t.change(0, 0, 0));
        due.noSuch("cue, with a wrong level", Tours::small, t -> t.change(2, 0, 101));
        due.noSuch("channel, with a wrong level", Tours::small, t -> t.change(1, 10, -2));
        due.noSuch("cue 20", Tours::full, t -> t.change(20, 9, 0));
        due.noSuch("channel 10", Tours::full, t -> t.change(19, 10, 0));

        due.promise(11, "Throws `IllegalArgumentException` if level is out of range");
        due.outOfRange("-2", Tours::full, t -> t.change(19, 9, -2));
        due.outOfRange("101", Tours::full, t -> t.change(19, 9, 101));
    }

    private void cues() {
        due.promise(12, "Returns how many cues there are.");
        for (int count : new int[] {0, 1, 19, 20}) {
            due.is("so many", Tours.cues(count).cues(), count);
        }
        due.is("none is played", Tours.fullAllCut().cues(), 20);
        CueTour tour = Tours.cues(2);
        tour.change(0, 0, NONE);
        due.is("one without changes", tour.cues(), 2);
    }

    private void cueAt() {
        due.promise(13, "Returns the cue that stands at a place in the order.");
        CueTour tour = Tours.lines(3);
        tour.addCue(1, 1, 0);
        tour.addCue(1, 0, 0);
        tour.addCue(0, 2, 0);
        tour.addCue(1, 0, 0);
        inOrder(tour, 2, 1, 3, 0);
        tour.cut(1, true);
        inOrder(tour, 2, 1, 3, 0);

        due.promise(13, "`place`: 0 for the first one");
        due.numbersOf(20, Tours::cues, CueTour::cueAt);
        CueTour back = Tours.lines(1);
        back.addCue(0, 9, 0);
        back.addCue(0, 8, 0);
        due.is("the first one", back.cueAt(0), 1);
        due.is("the last one", back.cueAt(1), 0);

        due.promise(13, "Returns the cue.");
        for (int place = 0; place < 20; place++) {
            due.is("of 20", Tours.cues(20).cueAt(place), place);
        }

        due.promise(13, "Throws `IndexOutOfBoundsException` if there are not so many, or place is below 0");
        due.noSuch("none", Tours::empty, t -> t.cueAt(0));
        due.noSuch("place 2 of two", Tours::small, t -> t.cueAt(2));
        due.noSuch("place 20", Tours::full, t -> t.cueAt(20));
        due.noSuch("place -1", Tours::full, t -> t.cueAt(-1));
    }

    private void timeOf() {
        due.promise(14, "Returns the time of a cue.");
        CueTour tour = Tours.withLines(30, 30);
        tour.addCue(1, 60, 0);
        tour.addCue(1, 0, 60);
        tour.addCue(0, 29, 60);
        due.is("start 30, offset 60", tour.timeOf(0), 90);
        due.is("start 30, offset 0", tour.timeOf(1), 30);
        due.is("start 0, offset 29", tour.timeOf(2), 29);

        due.promise(14, "`cue`: a cue");
        due.numbersOf(20, Tours::cues, CueTour::timeOf);

        due.promise(14, "Returns the time; NONE if it is not played.");
        tour.cut(1, true);
        due.is("not played", tour.timeOf(0), NONE);
        due.is("with offset 0", tour.timeOf(1), NONE);
        due.is("played", tour.timeOf(2), 29);
        tour.cut(1, false);
        tour.cut(0, true);
        due.is("played again, sooner", tour.timeOf(0), 60);
        due.is("at 0", tour.timeOf(1), 0);
        due.is("not played now", tour.timeOf(2), NONE);
        CueTour latest = Tours.withLines(30);
        for (int line = 1; line < 30; line++) {
            latest.addLine(30);
        }
        latest.addCue(29, 60, 60);
        due.is("the latest time", latest.timeOf(0), 930);

        due.promise(14, "Throws `IndexOutOfBoundsException` if there is no such cue");
        due.noSuch("no cues", Tours::empty, t -> t.timeOf(0));
        due.noSuch("cue 20", Tours::full, t -> t.timeOf(20));
    }

    private void foldedInto() {
        due.promise(15, "Returns the cue into which a cue is folded.");
        CueTour tour = Tours.lines(3);
        tour.addCue(2, 1, 0);
        tour.addCue(2, 0, 0);
        tour.addCue(0, 0, 0);
        tour.addCue(1, 0, 0);
        tour.cut(1, true);
        due.is("the first of the line behind", tour.foldedInto(3), 1);
        tour.move(1, 2, 2, 0);
        due.is("another is the first", tour.foldedInto(3), 0);
        tour.move(1, 2, 1, 0);
        due.is("with the same offset by number", tour.foldedInto(3), 0);
        tour.cut(0, true);
        due.is("two are folded", tour.foldedInto(2), 0);

        due.promise(15, "`cue`: a cue");
        due.numbersOf(20, Tours::cues, CueTour::foldedInto);

        due.promise(15, "Returns the cue; the cue itself if it is played; NONE if it is lost.");
        due.is("itself", tour.foldedInto(1), 1);
        due.is("itself, with others folded in", tour.foldedInto(0), 0);
        tour.cut(2, true);
        due.is("lost", tour.foldedInto(0), NONE);
        tour.cut(1, false);
        due.is("lost, behind the one that is played", tour.foldedInto(1), NONE);
        due.is("the one that is played", tour.foldedInto(3), 3);
        due.is("into it", tour.foldedInto(2), 3);

        due.promise(15, "Throws `IndexOutOfBoundsException` if there is no such cue");
        due.noSuch("no cues", Tours::empty, t -> t.foldedInto(0));
        due.noSuch("cue 20", Tours::full, t -> t.foldedInto(20));
    }

    private void changes() {
        due.promise(16, "Returns to which level a cue changes a channel when it is played, those folded into it"
                + " counted.");
        CueTour tour = Tours.lines(3);
        tour.addCue(2, 0, 0);
        tour.addCue(1, 0, 0);
        tour.addCue(0, 0, 0);
        tour.change(2, 0, 20);
        tour.change(2, 9, 29);
        tour.change(1, 9, 19);
        due.is("its own", tour.changes(2, 9), 29);
        tour.cut(0, true);
        due.is("of one folded in", tour.changes(1, 0), 20);
        due.is("its own ahead of it", tour.changes(1, 9), 19);
        tour.cut(1, true);
        due.is("over two", tour.changes(0, 0), 20);
        due.is("the last of two", tour.changes(0, 9), 19);

        due.promise(16, "`cue`: a cue");
        due.numbersOf(20, Tours::cues, (t, v) -> t.changes(v, 0));

        due.promise(16, "`channel`: 0 to 9");
        due.numbers(9, Tours::small, (t, v) -> t.changes(1, v));

        due.promise(16, "Returns the level; NONE if it does not change it, or is not played.");
        due.is("not played", tour.changes(2, 0), NONE);
        due.is("not played, others folded over it", tour.changes(1, 9), NONE);
        due.is("does not change it", tour.changes(0, 5), NONE);
        tour.change(0, 5, 0);
        due.is("to 0", tour.changes(0, 5), 0);
        tour.change(0, 5, 100);
        due.is("to 100", tour.changes(0, 5), 100);
        tour.cut(2, true);
        due.is("none is played", tour.changes(0, 5), NONE);
        tour.cut(2, false);
        due.is("played again", tour.changes(0, 5), 100);

        due.promise(16, "Throws `IndexOutOfBoundsException` if there is no such cue or channel");
        due.noSuch("no cues", Tours::empty, t -> t.changes(0, 0));
        due.noSuch("cue 20", Tours::full, t -> t.changes(20, 9));
        due.noSuch("channel 10", Tours::full, t -> t.changes(19, 10));
        due.noSuch("channel -1", Tours::full, t -> t.changes(0, -1));
    }
}
