/** A test for each sentence about the script: "Terms", and promises 1 to 7. */
final class ScriptEdges {
    private static final int NONE = CueTour.NONE;

    private final Due due;

    ScriptEdges(Due due) {
        this.due = due;
    }

    void run() {
        numbersOfLines();
        needsAtFirst();
        cutAndTakenIn();
        starts();
        constant();
        newObject();
        addLine();
        need();
        cut();
        lines();
        startOf();
        length();
    }

    private void numbersOfLines() {
        due.term("Lines are numbered from 0, at most 30.");
        CueTour tour = new CueTour();
        for (int line = 0; line < 30; line++) {
            due.is("lines ahead of it", tour.lines(), line);
            due.is("its number", tour.addLine(1), line);
        }
        due.is("all lines", tour.lines(), 30);
        due.takes("the line 29", () -> Tours.lines(30), t -> t.startOf(29));
        due.notNow("a line 30", () -> Tours.lines(30), t -> t.addLine(1));
    }

    private void needsAtFirst() {
        due.term("A line takes some seconds, and needs, for each of the areas 0 to 3, a light of at least some"
                + " level, 0 at first.");
        CueTour tour = Tours.lines(30);
        for (int area = 0; area < 4; area++) {
            due.is("need of the first line", tour.need(0, area, 0), 0);
            due.is("need of the last line", tour.need(29, area, 0), 0);
        }
        due.is("short without lamps, needing nothing", tour.shortOf(3, 0), 0);
        tour.need(0, 3, 1);
        due.is("short without lamps, needing 1", tour.shortOf(3, 0), 8);
        CueTour lit = Tours.lit(50);
        lit.need(0, 0, 49);
        due.is("light 50 for a need of 49", lit.shortOf(0, 0), 0);
        lit.need(0, 0, 50);
        due.is("light 50 for a need of 50", lit.shortOf(0, 0), 0);
        lit.need(0, 0, 51);
        due.is("light 50 for a need of 51", lit.shortOf(0, 0), 1);
    }

    private void cutAndTakenIn() {
        due.term("A line can be cut, and taken in again.");
        CueTour tour = Tours.withLines(3, 4);
        due.is("both", tour.startOf(1), 3);
        tour.cut(0, true);
        due.is("the first is cut", tour.startOf(0), NONE);
        due.is("the second starts", tour.startOf(1), 0);
        tour.cut(0, false);
        due.is("the first is taken in", tour.startOf(0), 0);
        due.is("the second starts again", tour.startOf(1), 3);
    }

    private void starts() {
        due.term("Time is told in seconds, from 0 at the beginning of the script; a line starts when all earlier"
                + " lines that are not cut are over; the length of the script is the seconds of all lines that are"
                + " not cut.");
        CueTour longest = new CueTour();
        for (int line = 0; line < 30; line++) {
            due.is("start of a line to come", longest.length(), 30 * line);
            longest.addLine(30);
            due.is("start", longest.startOf(line), 30 * line);
        }
        due.is("the longest script", longest.length(), 900);
        for (int line = 0; line < 29; line++) {
            longest.cut(line, true);
            due.is("start of the last line", longest.startOf(29), 870 - 30 * (line + 1));
        }
        due.is("the last line alone", longest.length(), 30);
        longest.cut(29, true);
        due.is("no line", longest.length(), 0);
        longest.cut(0, false);
        due.is("the first line alone", longest.length(), 30);
        due.is("it starts", longest.startOf(0), 0);
    }

    private void constant() {
        due.term("The constants: `NONE = -1`: There is none.");
        due.is("NONE", CueTour.NONE, -1);
    }

    private void newObject() {
        due.promise(1, "Begins without lines, cues and lamps.");
        CueTour tour = new CueTour();
        due.is("lines", tour.lines(), 0);
        due.is("cues", tour.cues(), 0);
        due.is("lamps", tour.lamps(), 0);
        due.is("logs", tour.logs(), 0);
        due.is("length", tour.length(), 0);
        due.noSuch("line 0", Tours::empty, t -> t.startOf(0));
        due.noSuch("cue 0", Tours::empty, t -> t.timeOf(0));
        due.noSuch("place 0", Tours::empty, t -> t.cueAt(0));
        due.noSuch("lamp 0", Tours::empty, t -> t.whereIs(0));
        due.noSuch("log 0", Tours::empty, t -> t.stageOf(0));
        CueTour other = Tours.full();
        due.is("another object's lines", other.lines(), 30);
        due.is("still no lines", tour.lines(), 0);
        due.is("still no lamps", tour.laidOn(0, 0), 0);
        due.is("a later object", new CueTour().cues(), 0);
    }

    private void addLine() {
        due.promise(2, "Adds a line.");
        CueTour tour = Tours.withLines(5);
        tour.addLine(7);
        due.is("lines", tour.lines(), 2);
        due.is("its start", tour.startOf(1), 5);
        due.is("its seconds", tour.length(), 12);
        tour.cut(1, true);
        tour.addLine(9);
        due.is("it is not cut", tour.startOf(2), 5);
        due.is("nor another taken in", tour.startOf(1), NONE);

        due.promise(2, "`seconds`: 1 to 30");
        due.range(1, 30, Tours::empty, CueTour::addLine);
        due.is("a line of 1", Tours.withLines(1).length(), 1);
        due.is("a line of 30", Tours.withLines(30).length(), 30);

        due.promise(2, "Returns its number.");
        CueTour counted = new CueTour();
        due.is("the first", counted.addLine(30), 0);
        due.is("the second", counted.addLine(1), 1);
        counted.cut(1, true);
        due.is("behind a cut one", counted.addLine(1), 2);
        due.is("the last", Tours.lines(29).addLine(1), 29);

        due.promise(2, "Throws `IllegalArgumentException` if seconds is out of range");
        due.range(1, 30, Tours::small, CueTour::addLine);
        due.outOfRange("0, and there are 30", Tours::full, t -> t.addLine(0));
        due.outOfRange("31, and there are 30", Tours::full, t -> t.addLine(31));

        due.promise(2, "Throws `IllegalStateException` if there are 30");
        due.takes("there are 29", () -> Tours.lines(29), t -> t.addLine(30));
        due.notNow("there are 30", () -> Tours.lines(30), t -> t.addLine(30));
        due.notNow("all is full", Tours::full, t -> t.addLine(1));
        due.notNow("all 30 are cut", Tours::fullAllCut, t -> t.addLine(1));
    }

    private void need() {
        due.promise(3, "Tells what light a line needs.");
        CueTour tour = Tours.lines(30);
        tour.need(29, 3, 1);
        due.is("the line is short", tour.shortOf(0, 29), 8);
        due.is("another is not", tour.shortOf(0, 28), 0);
        tour.need(29, 0, 100);
        due.is("of two areas", tour.shortOf(0, 29), 9);
        tour.need(29, 3, 0);
        due.is("of one again", tour.shortOf(0, 29), 1);

        due.promise(3, "`line`: a line");
        due.numbersOf(30, Tours::lines, (t, v) -> t.need(v, 0, 1));

        due.promise(3, "`area`: 0 to 3");
        due.numbers(3, Tours::small, (t, v) -> t.need(1, v, 1));

        due.promise(3, "`level`: 0 to 100");
        due.range(0, 100, Tours::small, (t, v) -> t.need(1, 0, v));
        due.is("100", kept(100), 100);
        due.is("0", kept(0), 0);

        due.promise(3, "Returns the level before.");
        CueTour before = Tours.lines(2);
        due.is("at first", before.need(1, 2, 100), 0);
        due.is("then", before.need(1, 2, 0), 100);
        due.is("then again", before.need(1, 2, 5), 0);
        due.is("the same", before.need(1, 2, 5), 5);
        due.is("of another area", before.need(1, 3, 5), 0);
        due.is("of another line", before.need(0, 2, 5), 0);

        due.promise(3, "Throws `IndexOutOfBoundsException` if there is no such line or area");
        due.noSuch("no lines", Tours::empty, t -> t.need(0, 0, 0));
        due.noSuch("line and area", Tours::small, t -> t.need(3, 4, 0));
        due.noSuch("line, with a wrong level", Tours::small, t -> t.need(3, 3, 101));
        due.noSuch("area, with a wrong level", Tours::small, t -> t.need(2, 4, -1));
        due.noSuch("line 30", Tours::full, t -> t.need(30, 0, 0));

        due.promise(3, "Throws `IllegalArgumentException` if level is out of range");
        due.outOfRange("-1", Tours::full, t -> t.need(29, 3, -1));
        due.outOfRange("101", Tours::full, t -> t.need(29, 3, 101));
    }

    private static int kept(int level) {
        CueTour tour = Tours.lines(1);
        tour.need(0, 0, level);
        return tour.need(0, 0, 1);
    }

    private void cut() {
        due.promise(4, "Cuts a line, or takes it in again.");
        CueTour tour = Tours.withLines(2, 3, 4);
        tour.cut(2, true);
        due.is("the last is cut", tour.startOf(2), NONE);
        due.is("the first stays", tour.startOf(0), 0);
        tour.cut(0, true);
        due.is("the first is cut", tour.startOf(0), NONE);
        due.is("the one between stays", tour.startOf(1), 0);
        tour.cut(2, false);
        due.is("the last is taken in", tour.startOf(2), 3);
        due.is("the first stays cut", tour.startOf(0), NONE);

        due.promise(4, "`line`: a line");
        due.numbersOf(30, Tours::lines, (t, v) -> t.cut(v, true));

        due.promise(4, "`isCut`: whether it is cut from now on");
        CueTour again = Tours.withLines(2, 3);
        again.cut(0, false);
        due.is("taken in, though it was not cut", again.startOf(0), 0);
        again.cut(0, true);
        again.cut(0, true);
        due.is("cut twice", again.startOf(0), NONE);
        again.cut(0, false);
        due.is("taken in once", again.startOf(0), 0);

        due.promise(4, "Returns the length of the script then.");
        CueTour told = Tours.withLines(5, 7, 11);
        due.is("of two lines", told.cut(1, true), 16);
        due.is("cut already", told.cut(1, true), 16);
        due.is("of one line", told.cut(2, true), 5);
        due.is("of none", told.cut(0, true), 0);
        due.is("of one again", told.cut(2, false), 11);
        due.is("of all", told.cut(1, false) + told.cut(0, false), 18 + 23);

        due.promise(4, "Throws `IndexOutOfBoundsException` if there is no such line");
        due.noSuch("no lines", Tours::empty, t -> t.cut(0, false));
        due.noSuch("line 30", Tours::full, t -> t.cut(30, true));
        due.noSuch("line -1", Tours::full, t -> t.cut(-1, true));
    }

    private void lines() {
        due.promise(5, "Returns how many lines there are, those that are cut included.");
        for (int count : new int[] {0, 1, 29, 30}) {
            due.is("of so many", Tours.lines(count).lines(), count);
        }
        due.is("all are cut", Tours.fullAllCut().lines(), 30);
        CueTour tour = Tours.lines(1);
        tour.cut(0, true);
        due.is("one is cut", tour.lines(), 1);
    }

    private void startOf() {
        due.promise(6, "Returns when a line starts.");
        CueTour tour = Tours.withLines(30, 1, 30);
        due.is("the first", tour.startOf(0), 0);
        due.is("the second", tour.startOf(1), 30);
        due.is("the third", tour.startOf(2), 31);

        due.promise(6, "`line`: a line");
        due.numbersOf(30, Tours::lines, CueTour::startOf);

        due.promise(6, "Returns the time; NONE if it is cut.");
        tour.cut(0, true);
        due.is("it is cut", tour.startOf(0), NONE);
        due.is("the next starts", tour.startOf(1), 0);
        due.is("and the one behind it", tour.startOf(2), 1);
        tour.cut(2, true);
        due.is("a later one is cut", tour.startOf(1), 0);
        due.is("the last one is cut", tour.startOf(2), NONE);

        due.promise(6, "Throws `IndexOutOfBoundsException` if there is no such line");
        due.noSuch("no lines", Tours::empty, t -> t.startOf(0));
        due.noSuch("line 30", Tours::full, t -> t.startOf(30));
    }

    private void length() {
        due.promise(7, "Returns the length of the script.");
        due.is("of none", new CueTour().length(), 0);
        due.is("of one", Tours.withLines(1).length(), 1);
        due.is("of two", Tours.withLines(30, 29).length(), 59);
        due.is("of all", Tours.lines(30).length(), 300);
        due.is("of all that are cut", Tours.fullAllCut().length(), 0);
        CueTour tour = Tours.withLines(4, 5);
        tour.addCue(1, 60, 60);
        tour.change(0, 0, 100);
        due.is("with a cue behind it", tour.length(), 9);
        tour.cut(1, true);
        due.is("without a cut one", tour.length(), 4);
    }
}
