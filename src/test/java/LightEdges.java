/** A test for each sentence about light, and what is short or best by it: promises 28 to 31. */
final class LightEdges {
    private static final int NONE = CueTour.NONE;

    private final Due due;

    LightEdges(Due due) {
        this.due = due;
    }

    void run() {
        sums();
        lastSeconds();
        light();
        shortOf();
        bestStage();
        bestToBorrow();
        bestToBorrowOfMany();
    }

    private void sums() {
        due.term("The light of an area on a stage at a time is the sum over all lamps there for this area of the level"
                + " times the power, divided by 100, rounded down for each, but 100 at most.");
        due.is("no lamp", Tours.cues(1).light(0, 0, 0), 0);
        int[][] products = {{1, 1, 0}, {1, 99, 0}, {1, 100, 1}, {99, 1, 0}, {100, 1, 1}, {50, 3, 1}, {50, 1, 0},
            {99, 99, 98}, {100, 99, 99}, {99, 100, 99}, {100, 100, 100}, {0, 100, 0}};
        for (int[] product : products) {
            CueTour tour = Tours.lit(product[0]);
            tour.addLamp(1, 0, 0, product[1]);
            due.is("level " + product[0] + ", power " + product[1], tour.light(1, 0, 0), product[2]);
        }
        CueTour each = Tours.lit(50);
        for (int lamp = 0; lamp < 19; lamp++) {
            each.addLamp(1, 0, 0, 3);
        }
        due.is("19 times 1.5, rounded down for each", each.light(1, 0, 0), 19);
        CueTour most = Tours.lit(100);
        most.addLamp(1, 0, 0, 60);
        most.addLamp(1, 0, 0, 39);
        due.is("99", most.light(1, 0, 0), 99);
        most.addLamp(1, 0, 0, 1);
        due.is("100 just", most.light(1, 0, 0), 100);
        most.addLamp(1, 0, 0, 1);
        due.is("101", most.light(1, 0, 0), 100);
        for (int lamp = 5; lamp < 20; lamp++) {
            most.addLamp(1, 0, 0, 100);
        }
        due.is("all lamps", most.light(1, 0, 0), 100);
        whichLamps();
    }

    private void whichLamps() {
        CueTour tour = Tours.lit(100);
        tour.change(0, 1, 100);
        tour.addLamp(0, 1, 0, 7);
        tour.addLamp(1, 1, 0, 9);
        due.is("not of another area", tour.light(0, 0, 0), 100);
        due.is("of its own", tour.light(0, 1, 0), 7);
        tour.borrow(2, 0, 1);
        due.is("with a borrowed one", tour.light(0, 1, 0), 16);
        due.is("without one that is away", tour.light(1, 1, 0), 0);
        due.is("of a dead one", Tours.worn(300).light(0, 0, 0), 0);
        due.is("of one that is nearly dead", Tours.worn(299).light(0, 0, 0), 100);
        CueTour dark = Tours.lit(100);
        dark.addLamp(0, 0, 1, 100);
        dark.change(0, 0, 10);
        due.is("a lamp on which nothing is laid adds none", dark.light(0, 0, 0), 10);
    }

    private void lastSeconds() {
        due.term("A line that is not cut is short of an area on a stage if the light of the area in the last second of"
                + " the line (its start and its seconds, added, less 1) is less than the line needs.");
        CueTour tour = Tours.withLines(5, 1, 5);
        tour.addLamp(0, 0, 0, 100);
        tour.addCue(0, 4, 0);
        tour.change(0, 0, 50);
        tour.addCue(2, 0, 0);
        tour.change(1, 0, 0);
        tour.need(0, 0, 50);
        tour.need(1, 0, 50);
        tour.need(2, 0, 1);
        due.is("lit in its last second", tour.shortOf(0, 0), 0);
        due.is("a line of 1 second", tour.shortOf(0, 1), 0);
        due.is("dark in its last second", tour.shortOf(0, 2), 1);
        tour.move(0, 0, 5, 0);
        due.is("lit a second too late", tour.shortOf(0, 0), 1);
        due.is("in time for the next", tour.shortOf(0, 1), 0);
        tour.move(0, 0, 6, 0);
        due.is("too late for the next", tour.shortOf(0, 1), 1);
        tour.move(0, 0, 0, 0);
        tour.move(1, 0, 4, 0);
        due.is("dark again in its last second", tour.shortOf(0, 0), 1);
        tour.move(1, 0, 5, 0);
        due.is("dark behind its last second", tour.shortOf(0, 0), 0);
        needs();
        cuts();
    }

    private void needs() {
        CueTour tour = Tours.lit(50);
        tour.need(0, 0, 50);
        due.is("what it needs", tour.shortOf(0, 0), 0);
        tour.need(0, 0, 51);
        due.is("one less than it needs", tour.shortOf(0, 0), 1);
        tour.need(0, 0, 0);
        due.is("needs nothing", tour.shortOf(0, 0), 0);
        due.is("needs nothing where no lamp is", tour.shortOf(1, 0), 0);
        tour.need(0, 0, 1);
        due.is("needs 1 where no lamp is", tour.shortOf(1, 0), 1);
        CueTour bright = Tours.lit(100);
        bright.addLamp(0, 0, 0, 100);
        bright.need(0, 0, 100);
        due.is("needs 100, and has it", bright.shortOf(0, 0), 0);
        bright.change(0, 0, 49);
        due.is("needs 100, and has 98", bright.shortOf(0, 0), 1);
    }

    private void cuts() {
        CueTour tour = Tours.withLines(10, 10);
        tour.need(0, 0, 1);
        tour.need(1, 0, 1);
        tour.addLamp(0, 0, 0, 100);
        tour.addCue(1, 0, 0);
        tour.change(0, 0, 1);
        due.is("short", tour.shortOf(0, 0), 1);
        due.is("lit", tour.shortOf(0, 1), 0);
        tour.cut(0, true);
        due.is("cut", tour.shortOf(0, 0), 0);
        due.is("lit sooner", tour.shortOf(0, 1), 0);
        tour.cut(0, false);
        tour.cut(1, true);
        due.is("short again", tour.shortOf(0, 0), 1);
        due.is("the other is cut", tour.shortOf(0, 1), 0);
    }

    private void light() {
        due.promise(28, "Returns the light of an area on a stage at a time.");
        CueTour tour = Tours.lines(1);
        tour.addCue(0, 1, 3);
        tour.change(0, 3, 100);
        tour.addLamp(3, 3, 0, 50);
        int[] lights = {0, 0, 16, 33, 50, 50};
        for (int time = 0; time < lights.length; time++) {
            due.is("at " + time, tour.light(3, 3, time), lights[time]);
        }
        due.is("another area", tour.light(3, 2, 5), 0);
        due.is("another stage", tour.light(2, 3, 5), 0);

        due.promise(28, "`stage`: 0 to 3");
        due.numbers(3, Tours::full, (t, v) -> t.light(v, 0, 0));
        due.numbers(3, Tours::empty, (t, v) -> t.light(v, 3, 2000));

        due.promise(28, "`area`: 0 to 3");
        due.numbers(3, Tours::full, (t, v) -> t.light(0, v, 0));
        due.numbers(3, Tours::empty, (t, v) -> t.light(3, v, 2000));

        due.promise(28, "`time`: 0 to 2000");
        due.range(0, 2000, Tours::small, (t, v) -> t.light(3, 3, v));
        due.is("0", Tours.lit(70).light(0, 0, 0), 70);
        due.is("2000", Tours.lit(70).light(0, 0, 2000), 70);

        due.promise(28, "Returns 0 to 100.");
        due.is("nothing", new CueTour().light(3, 3, 0), 0);
        due.is("the least", Tours.lit(1).light(0, 0, 0), 1);
        due.is("the most of one", Tours.lit(100).light(0, 0, 0), 100);
        CueTour two = Tours.lit(100);
        two.addLamp(0, 0, 0, 100);
        due.is("the most of two", two.light(0, 0, 0), 100);

        due.promise(28, "Throws `IndexOutOfBoundsException` if there is no such stage or area");
        due.noSuch("stage, with a wrong time", Tours::small, t -> t.light(4, 0, 2001));
        due.noSuch("area, with a wrong time", Tours::small, t -> t.light(3, 4, -1));
        due.noSuch("both", Tours::full, t -> t.light(-1, -1, -1));

        due.promise(28, "Throws `IllegalArgumentException` if time is out of range");
        due.outOfRange("-1", Tours::full, t -> t.light(3, 3, -1));
        due.outOfRange("2001", Tours::full, t -> t.light(3, 3, 2001));
    }

    private void shortOf() {
        due.promise(29, "Returns of which areas a line is short on a stage.");
        CueTour tour = Tours.lit(60);
        tour.addLine(10);
        tour.need(0, 0, 60);
        tour.need(1, 0, 61);
        due.is("not short", tour.shortOf(0, 0), 0);
        due.is("short", tour.shortOf(0, 1), 1);
        due.is("on another stage", tour.shortOf(3, 0), 1);

        due.promise(29, "`stage`: 0 to 3");
        due.numbers(3, Tours::full, (t, v) -> t.shortOf(v, 29));
        due.numbers(3, Tours::small, (t, v) -> t.shortOf(v, 0));

        due.promise(29, "`line`: a line");
        due.numbersOf(30, Tours::lines, (t, v) -> t.shortOf(3, v));

        due.promise(29, "Returns the set, bit a for the area a; 0 if the line is cut.");
        for (int set = 0; set < 16; set++) {
            CueTour of = Tours.lines(2);
            for (int area = 0; area < 4; area++) {
                of.need(1, area, set >> area & 1);
            }
            due.is("needs in areas " + set, of.shortOf(2, 1), set);
            of.cut(0, true);
            due.is("another is cut", of.shortOf(2, 1), set);
            of.cut(1, true);
            due.is("it is cut", of.shortOf(2, 1), 0);
            of.cut(1, false);
            due.is("it is taken in", of.shortOf(2, 1), set);
        }

        due.promise(29, "Throws `IndexOutOfBoundsException` if there is no such stage or line");
        due.noSuch("no lines", Tours::empty, t -> t.shortOf(0, 0));
        due.noSuch("stage 4", Tours::full, t -> t.shortOf(4, 29));
        due.noSuch("line 30", Tours::full, t -> t.shortOf(3, 30));
        due.noSuch("both", Tours::full, t -> t.shortOf(-1, -1));
    }

    /** One line for each of the stages; the stage's lamp lights as many of them as are told. */
    private static CueTour stagesWith(int... lit) {
        CueTour tour = Tours.lines(4);
        tour.addCue(0, 0, 0);
        tour.change(0, 0, 100);
        for (int stage = 0; stage < lit.length; stage++) {
            if (lit[stage] > 0) {
                tour.addLamp(stage, 0, 0, 10 * lit[stage]);
            }
        }
        for (int line = 0; line < 4; line++) {
            tour.need(line, 0, 10 * (line + 1));
        }
        return tour;
    }

    private void bestStage() {
        due.promise(30, "Returns the best stage for the script: that on which the fewest lines are short of some area,"
                + " of several the lowest.");
        due.is("one line fewer, the first", stagesWith(2, 1, 1, 1).bestStage(), 0);
        due.is("one line fewer, the second", stagesWith(1, 2, 1, 1).bestStage(), 1);
        due.is("one line fewer, the third", stagesWith(1, 1, 2, 1).bestStage(), 2);
        due.is("one line fewer, the last", stagesWith(1, 1, 1, 2).bestStage(), 3);
        due.is("two of the same", stagesWith(0, 3, 0, 3).bestStage(), 1);
        due.is("the last two of the same", stagesWith(2, 1, 3, 3).bestStage(), 2);
        due.is("all of the same", stagesWith(4, 4, 4, 4).bestStage(), 0);
        due.is("no lamps", stagesWith(0, 0, 0, 0).bestStage(), 0);
        due.is("better and better", stagesWith(0, 1, 2, 3).bestStage(), 3);
        due.is("worse and worse", stagesWith(4, 3, 2, 1).bestStage(), 0);
        due.is("a line short of three areas counts once", oneLineOrTwo().bestStage(), 3);
        CueTour cut = stagesWith(1, 2, 0, 0);
        cut.cut(1, true);
        due.is("a cut line does not count", cut.bestStage(), 0);
        cut.cut(0, true);
        due.is("nor a second one", cut.bestStage(), 0);

        due.promise(30, "Returns the stage.");
        due.is("without lines", new CueTour().bestStage(), 0);
        due.is("without needs", Tours.lamps(20).bestStage(), 0);
        due.is("all lines cut", Tours.fullAllCut().bestStage(), 0);
        CueTour dead = Tours.worn(299);
        dead.addLamp(3, 0, 0, 1);
        dead.need(0, 0, 1);
        due.is("its lamp lives", dead.bestStage(), 0);
        dead.perform(0);
        due.is("its lamp is dead", dead.bestStage(), 3);
    }

    /** On stage 3 one line is short of three areas, on stage 1 two are, of one area each. */
    private static CueTour oneLineOrTwo() {
        CueTour tour = Tours.lines(2);
        tour.addCue(0, 0, 0);
        for (int area = 0; area < 4; area++) {
            tour.change(0, area, 100);
            tour.need(area < 3 ? 0 : 1, area, 10);
        }
        tour.addLamp(3, 3, 0, 10);
        tour.addLamp(1, 0, 0, 10);
        tour.addLamp(1, 1, 0, 10);
        return tour;
    }

    /** A line that needs 50 in area 0, and channel 0 at 100; no lamps. */
    private static CueTour needy() {
        CueTour tour = Tours.lines(1);
        tour.addCue(0, 0, 0);
        tour.change(0, 0, 100);
        tour.need(0, 0, 50);
        return tour;
    }

    private void bestToBorrow() {
        due.promise(31, "Returns the lamp that, borrowed by a stage for an area, would make the fewest lines short"
                + " there: of all lamps that are at their home, which is another stage; of several the lowest one.");
        CueTour tour = needy();
        tour.addLamp(1, 3, 0, 49);
        due.is("one too weak", tour.bestToBorrow(0, 0), NONE);
        tour.addLamp(1, 3, 0, 50);
        due.is("one just strong enough", tour.bestToBorrow(0, 0), 1);
        tour.addLamp(1, 0, 0, 100);
        due.is("of two the lowest", tour.bestToBorrow(0, 0), 1);
        due.is("for another area none", tour.bestToBorrow(0, 1), NONE);
        due.is("for another stage", tour.bestToBorrow(3, 0), 1);
        tour.borrow(1, 2, 0);
        due.is("the lowest is away", tour.bestToBorrow(0, 0), 2);
        tour.borrow(2, 3, 0);
        due.is("all are away", tour.bestToBorrow(0, 0), NONE);
        tour.bringBack(1);
        due.is("one is back", tour.bestToBorrow(0, 0), 1);
        due.is("it is there still", tour.whereIs(1), 1);
        CueTour own = needy();
        own.addLamp(0, 1, 0, 100);
        due.is("its own lamp of another area", own.bestToBorrow(0, 0), NONE);
        own.borrow(0, 3, 0);
        due.is("its own lamp that is away", own.bestToBorrow(0, 0), NONE);
        own.addLamp(3, 1, 0, 100);
        due.is("one of the stage that has its lamp", own.bestToBorrow(0, 0), 1);
        due.is("where that one is at home none is short", own.bestToBorrow(3, 0), NONE);

        due.promise(31, "`stage`: 0 to 3");
        due.numbers(3, Tours::full, (t, v) -> t.bestToBorrow(v, 0));
        due.numbers(3, Tours::empty, (t, v) -> t.bestToBorrow(v, 3));

        due.promise(31, "`area`: 0 to 3");
        due.numbers(3, Tours::full, (t, v) -> t.bestToBorrow(0, v));
        due.numbers(3, Tours::empty, (t, v) -> t.bestToBorrow(3, v));

        due.promise(31, "Throws `IndexOutOfBoundsException` if there is no such stage or area");
        due.noSuch("stage 4", Tours::full, t -> t.bestToBorrow(4, 3));
        due.noSuch("area 4", Tours::full, t -> t.bestToBorrow(3, 4));
        due.noSuch("both", Tours::empty, t -> t.bestToBorrow(-1, -1));
    }

    private void bestToBorrowOfMany() {
        due.promise(31, "Returns the lamp; NONE if by none fewer lines would be short than are now.");
        due.is("no lamps", needy().bestToBorrow(0, 0), NONE);
        due.is("no lines", new CueTour().bestToBorrow(3, 3), NONE);
        CueTour tour = stagesWith(0, 1, 2, 3);
        due.is("the one by which the fewest are short", tour.bestToBorrow(0, 0), 2);
        due.is("added to the stage's own", tour.bestToBorrow(2, 0), 2);
        due.is("fewer by two lamps, the fewest by the second", stagesWith(1, 1, 2, 0).bestToBorrow(0, 0), 2);
        due.is("as many short as now", evenly().bestToBorrow(0, 0), NONE);
        CueTour two = needy();
        two.need(0, 1, 1);
        two.addLamp(1, 0, 0, 100);
        due.is("the line stays short of another area", two.bestToBorrow(0, 0), NONE);
        two.need(0, 1, 0);
        due.is("it does not", two.bestToBorrow(0, 0), 0);
        CueTour none = stagesWith(4, 4, 4, 4);
        due.is("none is short", none.bestToBorrow(0, 0), NONE);
        none.cut(0, true);
        due.is("none is short that is not cut", none.bestToBorrow(0, 0), NONE);
        due.is("all are cut", Tours.fullAllCut().bestToBorrow(0, 0), NONE);
        CueTour harm = needy();
        harm.addLamp(0, 0, 1, 50);
        harm.addLamp(1, 0, 0, 49);
        due.is("more would be short", harm.bestToBorrow(0, 0), NONE);
        CueTour dead = Tours.worn(300);
        dead.need(0, 1, 1);
        dead.change(0, 1, 100);
        due.is("a dead one lights nothing", dead.bestToBorrow(2, 1), NONE);
        dead.replace(0);
        due.is("with a new burner", dead.bestToBorrow(2, 1), 0);
        CueTour last = needy();
        for (int lamp = 0; lamp < 20; lamp++) {
            last.addLamp(1 + lamp % 3, 3, 2, lamp < 19 ? 49 : 50);
        }
        due.is("the lamp 19", last.bestToBorrow(0, 0), 19);
    }

    /** A lamp by which one line fewer would be short, and another one more. */
    private static CueTour evenly() {
        CueTour tour = Tours.lines(2);
        tour.addCue(0, 0, 0);
        tour.change(0, 0, 100);
        tour.change(0, 4, 100);
        tour.setChannel(4, 0, 2);
        tour.addCue(1, 0, 0);
        tour.change(1, 0, 10);
        tour.change(1, 4, 50);
        tour.addLamp(0, 0, 1, 40);
        tour.addLamp(1, 0, 2, 20);
        tour.need(0, 0, 60);
        tour.need(1, 0, 20);
        return tour;
    }
}
