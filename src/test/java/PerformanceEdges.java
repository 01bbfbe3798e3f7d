/** A test for each sentence about performances and logs: promises 32 to 36. */
final class PerformanceEdges {
    private final Due due;

    PerformanceEdges(Due due) {
        this.due = due;
    }

    void run() {
        plays();
        makesLogs();
        wears();
        perform();
        logs();
        stageOf();
        wasShortOf();
        timesShort();
    }

    private void plays() {
        due.term("A performance on a stage plays the script as it is, with the lamps that are there.");
        CueTour tour = Tours.lit(50);
        tour.addLine(10);
        tour.addLine(5);
        tour.need(0, 0, 50);
        tour.need(1, 0, 50);
        tour.need(2, 0, 51);
        due.is("its lines", tour.perform(0), 1);
        due.is("its seconds", tour.wear(0), 25);
        tour.cut(2, true);
        due.is("as it is cut", tour.perform(0), 0);
        due.is("its seconds then", tour.wear(0), 45);
        due.is("on a stage without lamps", tour.perform(1), 2);
        tour.borrow(0, 1, 0);
        due.is("with a borrowed lamp", tour.perform(1), 0);
        due.is("that wears", tour.wear(0), 65);
        due.is("at its home, without it", tour.perform(0), 2);
        due.is("where it does not wear", tour.wear(0), 65);
        due.is("the script is as it was", tour.length(), 20);
        due.is("the lamp is where it was", tour.whereIs(0), 1);
    }

    private void makesLogs() {
        due.term("It makes a log, numbered from 0, at most 20, which keeps the stage and, for each line, of which areas"
                + " it was short then (of none, if it was cut).");
        CueTour tour = Tours.lines(1);
        for (int log = 0; log < 20; log++) {
            due.is("logs ahead of it", tour.logs(), log);
            tour.need(0, log % 4, log % 3);
            tour.perform(3 - log % 4);
            due.is("its stage", tour.stageOf(log), 3 - log % 4);
            due.is("short", tour.wasShortOf(log, 0), tour.shortOf(3 - log % 4, 0));
        }
        due.is("all logs", tour.logs(), 20);
        due.takes("the log 19", () -> Tours.logs(20), t -> t.stageOf(19));
        due.notNow("a log 20", () -> Tours.logs(20), t -> t.perform(0));
        CueTour kept = Tours.lines(30);
        kept.need(0, 0, 1);
        kept.need(28, 1, 1);
        kept.need(29, 3, 1);
        kept.cut(28, true);
        kept.perform(2);
        kept.need(0, 0, 0);
        kept.need(29, 2, 1);
        kept.cut(28, false);
        kept.cut(29, true);
        due.is("the first line, as it was", kept.wasShortOf(0, 0), 1);
        due.is("a line that was not short", kept.wasShortOf(0, 1), 0);
        due.is("a line that was cut", kept.wasShortOf(0, 28), 0);
        due.is("the last line, as it was", kept.wasShortOf(0, 29), 8);
    }

    private void wears() {
        due.term("Then the wear of each lamp there grows by the number of seconds, from 0 to the length of the script"
                + " less 1, in which its level was above 0, by the wear that it had ahead of the performance.");
        int[][] offsets = {{0, 10}, {1, 9}, {9, 1}, {10, 0}, {60, 0}};
        for (int[] offset : offsets) {
            CueTour tour = Tours.lit(1);
            tour.move(0, 0, offset[0], 0);
            tour.perform(0);
            due.is("lit from " + offset[0] + " on", tour.wear(0), offset[1]);
        }
        CueTour shortest = Tours.withLines(1);
        shortest.addLamp(0, 1, 0, 1);
        shortest.addCue(0, 0, 0);
        shortest.change(0, 9, 1);
        shortest.perform(0);
        due.is("the only second, by the last channel", shortest.wear(0), 1);
        CueTour ended = Tours.lit(100);
        ended.addCue(0, 9, 0);
        ended.change(1, 0, 0);
        ended.perform(0);
        due.is("dark in the last second", ended.wear(0), 9);
        ended.move(1, 0, 10, 0);
        ended.perform(0);
        due.is("dark behind the last second", ended.wear(0), 19);
        CueTour faded = Tours.lit(5);
        faded.move(0, 0, 0, 20);
        faded.perform(0);
        due.is("above 0 from the second 4 on", faded.wear(0), 6);
        CueTour weak = Tours.lit(1);
        weak.addLamp(0, 0, 0, 1);
        weak.perform(0);
        due.is("its level counts, not its light", weak.wear(1), 10);
        eachLamp();
        byTheWearAhead();
    }

    private void eachLamp() {
        CueTour tour = Tours.lit(50);
        tour.addLamp(0, 0, 1, 100);
        tour.addLamp(0, 3, 0, 100);
        tour.addLamp(1, 0, 0, 100);
        tour.addLamp(2, 0, 0, 100);
        tour.borrow(3, 0, 0);
        tour.perform(0);
        due.is("of the channel's colour", tour.wear(0), 10);
        due.is("of another colour, dark", tour.wear(1), 0);
        due.is("for another area, dark", tour.wear(2), 0);
        due.is("borrowed", tour.wear(3), 10);
        due.is("on another stage", tour.wear(4), 0);
        CueTour cut = Tours.lit(50);
        cut.addLine(30);
        cut.cut(1, true);
        cut.perform(0);
        due.is("without the seconds of a cut line", cut.wear(0), 10);
        cut.cut(1, false);
        cut.perform(0);
        due.is("with them", cut.wear(0), 50);
    }

    private void byTheWearAhead() {
        int[][] wears = {{299, 1}, {270, 1}, {269, 0}};
        for (int[] wear : wears) {
            CueTour tour = Tours.worn(wear[0]);
            tour.need(0, 0, 100);
            due.is("with a wear of " + wear[0] + " none is short", tour.perform(0), 0);
            due.is("it wears through the script", tour.wear(0), wear[0] + 30);
            due.is("short then, by the wear that it has", tour.perform(0), wear[1]);
        }
        for (int wear : new int[] {300, 301}) {
            CueTour tour = Tours.worn(wear);
            tour.need(0, 0, 1);
            due.is("with a wear of " + wear + " it is short", tour.perform(0), 1);
            due.is("it wears no more", tour.wear(0), wear);
        }
        CueTour far = Tours.worn(299);
        for (int line = 1; line < 11; line++) {
            far.cut(line, false);
        }
        for (int line = 11; line < 30; line++) {
            far.addLine(30);
        }
        far.need(29, 0, 100);
        due.is("the last line of the longest script", far.perform(0), 0);
        due.is("none dies in it", far.wear(0), 1199);
    }

    private void perform() {
        due.promise(32, "Performs the script on a stage.");
        CueTour tour = Tours.lit(1);
        tour.perform(0);
        due.is("a log", tour.logs(), 1);
        due.is("its stage", tour.stageOf(0), 0);
        due.is("wear", tour.wear(0), 10);
        tour.perform(3);
        due.is("another log", tour.logs(), 2);
        due.is("the other stage", tour.stageOf(1), 3);
        due.is("no more wear", tour.wear(0), 10);

        due.promise(32, "`stage`: 0 to 3");
        due.numbers(3, () -> Tours.lines(1), CueTour::perform);
        due.numbers(3, Tours::small, CueTour::perform);

        due.promise(32, "Returns how many lines were short of some area.");
        CueTour told = Tours.lines(30);
        due.is("none", told.perform(0), 0);
        told.need(29, 3, 1);
        due.is("one", told.perform(0), 1);
        told.need(29, 2, 1);
        due.is("one, of two areas", told.perform(0), 1);
        for (int line = 0; line < 30; line++) {
            told.need(line, line % 4, 100);
        }
        due.is("all", told.perform(0), 30);
        told.cut(0, true);
        due.is("all but a cut one", told.perform(0), 29);

        due.promise(32, "Throws `IndexOutOfBoundsException` if there is no such stage");
        due.noSuch("there are no lines too", Tours::empty, t -> t.perform(4));
        due.noSuch("all lines are cut too", Tours::fullAllCut, t -> t.perform(-1));
        due.noSuch("there are 20 logs too", () -> Tours.logs(20), t -> t.perform(4));

        due.promise(32, "Throws `IllegalStateException` if all lines are cut, or there are none, or there are 20 logs");
        due.notNow("there are no lines", Tours::empty, t -> t.perform(0));
        due.takes("there is one", () -> Tours.lines(1), t -> t.perform(0));
        due.takes("there is one of 1 second", () -> Tours.withLines(1), t -> t.perform(0));
        due.notNow("it is cut", () -> cutBut(1, -1), t -> t.perform(3));
        due.notNow("all 30 are cut", () -> cutBut(30, -1), t -> t.perform(0));
        due.takes("all but the first are cut", () -> cutBut(30, 0), t -> t.perform(0));
        due.takes("all but the last are cut", () -> cutBut(30, 29), t -> t.perform(0));
        due.takes("there are 19 logs", () -> Tours.logs(19), t -> t.perform(3));
        due.notNow("there are 20 logs", () -> Tours.logs(20), t -> t.perform(3));
        due.notNow("all is full", Tours::full, t -> t.perform(0));
        due.notNow("there are 20 logs, and all lines are cut", Tours::fullAllCut, t -> t.perform(0));
    }

    private static CueTour cutBut(int lines, int kept) {
        CueTour tour = Tours.lines(lines);
        for (int line = 0; line < lines; line++) {
            tour.cut(line, line != kept);
        }
        return tour;
    }

    private void logs() {
        due.promise(33, "Returns how many logs there are.");
        due.is("of a new object", new CueTour().logs(), 0);
        for (int count : new int[] {0, 1, 19, 20}) {
            due.is("so many", Tours.logs(count).logs(), count);
        }
        due.is("all lines cut", Tours.fullAllCut().logs(), 20);
    }

    private void stageOf() {
        due.promise(34, "Returns the stage of a log.");
        for (int log = 0; log < 20; log++) {
            due.is("of " + log, Tours.logs(20).stageOf(log), log % 4);
        }

        due.promise(34, "`log`: a log");
        due.numbersOf(20, Tours::logs, CueTour::stageOf);

        due.promise(34, "Throws `IndexOutOfBoundsException` if there is no such log");
        due.noSuch("no logs", Tours::empty, t -> t.stageOf(0));
        due.noSuch("log 20", Tours::full, t -> t.stageOf(20));
    }

    private void wasShortOf() {
        due.promise(35, "Returns of which areas a line was short in a log.");
        for (int set = 0; set < 16; set++) {
            CueTour tour = Tours.lines(30);
            for (int area = 0; area < 4; area++) {
                tour.need(29, area, set >> area & 1);
                tour.need(0, area, 1 - (set >> area & 1));
            }
            tour.perform(1);
            due.is("the last line", tour.wasShortOf(0, 29), set);
            due.is("the first line", tour.wasShortOf(0, 0), 15 - set);
        }
        CueTour dying = Tours.worn(299);
        dying.need(0, 0, 1);
        dying.perform(0);
        dying.perform(0);
        due.is("lit by a lamp that died behind it", dying.wasShortOf(1, 0), 0);
        due.is("not by a dead one", dying.wasShortOf(2, 0), 1);

        due.promise(35, "`log`: a log");
        due.numbersOf(20, Tours::logs, (t, v) -> t.wasShortOf(v, 0));

        due.promise(35, "`line`: a line");
        due.numbersOf(30, Tours::loggedLines, (t, v) -> t.wasShortOf(0, v));

        due.promise(35, "Returns the set; 0 if the line was cut, or was not there.");
        CueTour tour = Tours.loggedLines(2);
        tour.cut(1, true);
        tour.perform(0);
        tour.addLine(1);
        tour.need(2, 2, 1);
        due.is("the set", tour.wasShortOf(0, 1), 4);
        due.is("it was cut", tour.wasShortOf(1, 1), 0);
        due.is("it was not there", tour.wasShortOf(1, 2), 0);
        tour.cut(1, false);
        due.is("it is taken in", tour.wasShortOf(1, 1), 0);
        tour.perform(0);
        due.is("it was there then", tour.wasShortOf(2, 2), 4);
        due.is("still not ahead of it", tour.wasShortOf(0, 2), 0);
        tour.cut(0, true);
        due.is("it was not cut then", tour.wasShortOf(0, 0), 4);

        due.promise(35, "Throws `IndexOutOfBoundsException` if there is no such log or line");
        due.noSuch("no lines, no logs", Tours::empty, t -> t.wasShortOf(0, 0));
        due.noSuch("no logs", () -> Tours.lines(1), t -> t.wasShortOf(0, 0));
        due.noSuch("a line that is not there", () -> Tours.logs(1), t -> t.wasShortOf(0, 1));
        due.noSuch("log 20", Tours::full, t -> t.wasShortOf(20, 29));
        due.noSuch("line 30", Tours::full, t -> t.wasShortOf(19, 30));
    }

    private void timesShort() {
        due.promise(36, "Returns in how many logs a line was short of some area.");
        for (int count : new int[] {0, 1, 19, 20}) {
            due.is("so many logs", Tours.logs(count).timesShort(0), count);
        }
        CueTour tour = Tours.lines(2);
        tour.need(0, 0, 1);
        tour.need(0, 3, 1);
        tour.perform(0);
        due.is("of two areas in one log", tour.timesShort(0), 1);
        due.is("of none", tour.timesShort(1), 0);
        tour.cut(0, true);
        tour.perform(0);
        due.is("it was cut", tour.timesShort(0), 1);
        tour.cut(0, false);
        tour.perform(3);
        due.is("on another stage", tour.timesShort(0), 2);
        tour.need(0, 0, 0);
        tour.need(0, 3, 0);
        tour.perform(0);
        due.is("not short", tour.timesShort(0), 2);
        tour.addLine(1);
        tour.need(2, 0, 1);
        due.is("it was not there", tour.timesShort(2), 0);
        tour.perform(0);
        due.is("it was there", tour.timesShort(2), 1);
        tour.cut(2, true);
        due.is("it is cut now", tour.timesShort(2), 1);

        due.promise(36, "`line`: a line");
        due.numbersOf(30, Tours::loggedLines, CueTour::timesShort);

        due.promise(36, "Throws `IndexOutOfBoundsException` if there is no such line");
        due.noSuch("no lines", Tours::empty, t -> t.timesShort(0));
        due.noSuch("line 30", Tours::full, t -> t.timesShort(30));
    }
}
