/** A test for each sentence about lamps, where they are and what is laid on them: promises 19 to 27. */
final class LampEdges {
    private final Due due;

    LampEdges(Due due) {
        this.due = due;
    }

    void run() {
        stages();
        numbersOfLamps();
        homes();
        deadLamps();
        laid();
        levels();
        addLamp();
        borrow();
        bringBack();
        replace();
        lamps();
        whereIs();
        wear();
        laidOn();
        lampLevel();
    }

    private void stages() {
        due.term("Stages are 0 to 3.");
        for (int stage = 0; stage < 4; stage++) {
            CueTour tour = Tours.lit(40);
            due.is("a lamp of stage " + stage, tour.addLamp(stage, 0, 0, 50), 1);
            due.is("where it is", tour.whereIs(1), stage);
            due.is("light there", tour.light(stage, 0, 0), stage == 0 ? 60 : 20);
            due.is("none on the next one", tour.light((stage + 1) % 4, 0, 0), stage == 3 ? 40 : 0);
        }
        due.numbers(3, Tours::small, (t, v) -> t.addLamp(v, 0, 0, 1));
        due.numbers(3, Tours::small, (t, v) -> t.light(v, 0, 0));
        due.numbers(3, Tours::small, CueTour::perform);
    }

    private void numbersOfLamps() {
        due.term("Lamps are numbered from 0, at most 20; a lamp has a home, which is a stage, an area, a colour, a"
                + " power, 1 to 100, and wear, 0 at first.");
        CueTour tour = Tours.lines(1);
        for (int lamp = 0; lamp < 20; lamp++) {
            due.is("lamps ahead of it", tour.lamps(), lamp);
            due.is("its number", tour.addLamp(3 - lamp % 4, 0, 0, 100), lamp);
            due.is("its home", tour.whereIs(lamp), 3 - lamp % 4);
            due.is("its wear", tour.wear(lamp), 0);
        }
        due.is("all lamps", tour.lamps(), 20);
        due.takes("the lamp 19", () -> Tours.lamps(20), t -> t.wear(19));
        due.notNow("a lamp 20", () -> Tours.lamps(20), t -> t.addLamp(0, 0, 0, 1));
        CueTour parts = Tours.lines(1);
        parts.addCue(0, 0, 0);
        parts.change(0, 3, 100);
        parts.change(0, 7, 100);
        parts.addLamp(2, 3, 1, 1);
        parts.addLamp(2, 3, 2, 100);
        parts.setChannel(7, 3, 2);
        due.is("by stage, area and colour", parts.laidOn(2, 7), 2);
        due.is("of no colour there is", parts.laidOn(2, 3), 3);
        due.is("power 1 and power 100", parts.light(2, 3, 0), 100);
        parts.change(0, 3, 99);
        parts.change(0, 7, 98);
        due.is("0.99 and 99", parts.light(2, 3, 0), 99);
    }

    private void homes() {
        due.term("It is at its home, or, if it is borrowed, at another stage.");
        CueTour tour = Tours.lamps(4);
        for (int lamp = 0; lamp < 4; lamp++) {
            due.is("at its home", tour.whereIs(lamp), lamp);
            tour.borrow(lamp, 3 - lamp, 0);
            due.is("borrowed", tour.whereIs(lamp), 3 - lamp);
            tour.bringBack(lamp);
            due.is("at its home again", tour.whereIs(lamp), lamp);
        }
        for (int stage = 0; stage < 4; stage++) {
            int home = stage;
            due.notNow("its home borrows it", () -> Tours.lamps(4), t -> t.borrow(home, home, 0));
        }
    }

    private void deadLamps() {
        due.term("A lamp with a wear of 300 or more is dead.");
        for (int wear : new int[] {0, 1, 299}) {
            due.is("wear", Tours.worn(wear).wear(0), wear);
            due.is("it is not dead", Tours.worn(wear).lampLevel(0, 0), 100);
            due.is("its light", Tours.worn(wear).light(0, 0, 0), 100);
        }
        for (int wear : new int[] {300, 301, 330}) {
            due.is("wear", Tours.worn(wear).wear(0), wear);
            due.is("it is dead", Tours.worn(wear).lampLevel(0, 0), 0);
            due.is("its light", Tours.worn(wear).light(0, 0, 0), 0);
        }
        CueTour tour = Tours.worn(299);
        due.is("it plays", tour.perform(0), 0);
        due.is("and dies", tour.wear(0), 329);
        due.is("it is dead then", tour.lampLevel(0, 0), 0);
        tour.replace(0);
        due.is("it is not dead any more", tour.lampLevel(0, 0), 100);
    }

    private void laid() {
        due.term("On a stage a channel is laid on those lamps there, dead or not, that are for its area and have its"
                + " colour; if there are none, on all lamps there for its area.");
        CueTour tour = Tours.worn(300);
        due.is("on a dead one of its colour", tour.laidOn(0, 0), 1);
        tour.addLamp(0, 0, 1, 100);
        due.is("not on a living one of another colour", tour.laidOn(0, 0), 1);
        due.is("which is dark", tour.lampLevel(1, 0), 0);
        tour.setChannel(0, 0, 2);
        due.is("on all, one of them dead", tour.laidOn(0, 0), 3);
        due.is("the living one", tour.lampLevel(1, 0), 100);
        tour.addLamp(0, 0, 2, 100);
        due.is("on the only one of its colour", tour.laidOn(0, 0), 4);
        tour.addLamp(0, 1, 2, 100);
        tour.addLamp(1, 0, 2, 100);
        due.is("not on one for another area, or elsewhere", tour.laidOn(0, 0), 4);
        due.is("on another stage", tour.laidOn(1, 0), 16);
        tour.borrow(4, 0, 0);
        due.is("on a borrowed one of its colour", tour.laidOn(0, 0), 20);
        due.is("not where its home is", tour.laidOn(1, 0), 0);
        tour.setChannel(0, 3, 2);
        due.is("no lamp for its area", tour.laidOn(0, 0), 0);
        tour.setChannel(0, 1, 0);
        due.is("on one of another colour, the only one for its area", tour.laidOn(0, 0), 8);
    }

    private void levels() {
        due.term("The level of a lamp at a time is the greatest level of the channels that are laid on it at the"
                + " stage where it is; 0 if none is, or if it is dead.");
        CueTour tour = Tours.lit(50);
        due.is("one channel", tour.lampLevel(0, 0), 50);
        tour.change(0, 4, 49);
        due.is("another at less", tour.lampLevel(0, 0), 50);
        tour.change(0, 8, 51);
        due.is("a third at more", tour.lampLevel(0, 0), 51);
        tour.change(0, 1, 100);
        due.is("one of another area", tour.lampLevel(0, 0), 51);
        tour.addLamp(0, 0, 2, 1);
        tour.setChannel(8, 0, 2);
        due.is("one of another lamp's colour", tour.lampLevel(0, 0), 50);
        due.is("that lamp", tour.lampLevel(1, 0), 51);
        tour.borrow(0, 3, 1);
        due.is("at the stage where it is", tour.lampLevel(0, 0), 100);
        due.is("the one that stays has all channels now", tour.lampLevel(1, 0), 51);
        tour.change(0, 8, 0);
        due.is("so that another counts", tour.lampLevel(1, 0), 50);
        tour.bringBack(0);
        tour.borrow(0, 3, 3);
        due.is("laid are none above 0", tour.lampLevel(0, 0), 0);
        tour.setChannel(3, 2, 0);
        tour.setChannel(7, 2, 0);
        due.is("none is laid", tour.laidOn(3, 3) + tour.laidOn(3, 7), 0);
        due.is("its level then", tour.lampLevel(0, 0), 0);
        due.is("it is dead", Tours.worn(300).lampLevel(0, 0), 0);
        due.is("it is nearly dead", Tours.worn(299).lampLevel(0, 0), 100);
        for (int channel = 0; channel < 10; channel++) {
            CueTour one = Tours.lines(1);
            one.addCue(0, 0, 0);
            one.change(0, channel, 1);
            one.addLamp(0, channel % 4, 2, 100);
            due.is("by the channel " + channel + " alone", one.lampLevel(0, 0), 1);
            due.is("its light", one.light(0, channel % 4, 0), 1);
        }
    }

    private void addLamp() {
        due.promise(19, "Adds a lamp.");
        CueTour tour = Tours.lit(100);
        tour.addLamp(3, 0, 0, 70);
        due.is("lamps", tour.lamps(), 2);
        due.is("its light", tour.light(3, 0, 0), 70);
        due.is("it is at its home", Due.thrown(tour, t -> t.bringBack(1)), "IllegalStateException");
        tour.borrow(1, 0, 1);
        tour.addLamp(3, 0, 0, 30);
        due.is("the other stays borrowed", tour.whereIs(1), 0);
        due.is("light of the new one alone", tour.light(3, 0, 0), 30);

        due.promise(19, "`stage`: its home");
        due.numbers(3, Tours::small, (t, v) -> t.addLamp(v, 1, 1, 1));
        CueTour back = Tours.lines(1);
        back.addLamp(2, 0, 0, 1);
        back.borrow(0, 0, 0);
        back.bringBack(0);
        due.is("brought back", back.whereIs(0), 2);

        due.promise(19, "`area`: 0 to 3");
        due.numbers(3, Tours::small, (t, v) -> t.addLamp(1, v, 1, 1));
        for (int area = 0; area < 4; area++) {
            CueTour of = Tours.lines(1);
            of.addLamp(0, area, 0, 1);
            due.is("channel of the area", of.laidOn(0, area), 1);
            due.is("channel of another", of.laidOn(0, (area + 1) % 4), 0);
        }

        due.promise(19, "`colour`: 0 to 2");
        due.range(0, 2, Tours::small, (t, v) -> t.addLamp(1, 1, v, 1));
        for (int colour = 0; colour < 3; colour++) {
            CueTour of = Tours.lines(1);
            of.addLamp(0, 0, (colour + 1) % 3, 1);
            of.addLamp(0, 0, colour, 1);
            of.setChannel(0, 0, colour);
            due.is("channel of the colour", of.laidOn(0, 0), 2);
        }

        due.promise(19, "`power`: 1 to 100");
        due.range(1, 100, Tours::small, (t, v) -> t.addLamp(1, 1, 1, v));
        for (int power : new int[] {1, 2, 99, 100}) {
            CueTour of = Tours.lit(100);
            of.addLamp(1, 0, 0, power);
            due.is("light of power " + power, of.light(1, 0, 0), power);
        }

        due.promise(19, "Returns its number.");
        CueTour counted = Tours.lines(1);
        due.is("the first", counted.addLamp(3, 3, 2, 100), 0);
        due.is("the second", counted.addLamp(0, 0, 0, 1), 1);
        due.is("the last", Tours.lamps(19).addLamp(0, 0, 0, 1), 19);

        due.promise(19, "Throws `IndexOutOfBoundsException` if there is no such stage or area");
        due.noSuch("stage, with a wrong colour", Tours::small, t -> t.addLamp(4, 3, 3, 1));
        due.noSuch("stage, with a wrong power", Tours::small, t -> t.addLamp(-1, 3, 2, 0));
        due.noSuch("area, with a wrong power", Tours::small, t -> t.addLamp(3, 4, 2, 101));
        due.noSuch("stage, there are 20 too", Tours::full, t -> t.addLamp(4, 0, 0, 1));
        due.noSuch("area, there are 20 too", Tours::full, t -> t.addLamp(0, -1, 0, 1));

        due.promise(19, "Throws `IllegalArgumentException` if colour or power is out of range");
        due.outOfRange("colour 3", Tours::empty, t -> t.addLamp(3, 3, 3, 100));
        due.outOfRange("power 101", Tours::empty, t -> t.addLamp(3, 3, 2, 101));
        due.outOfRange("power 0", Tours::empty, t -> t.addLamp(3, 3, 2, 0));
        due.outOfRange("colour, there are 20 too", Tours::full, t -> t.addLamp(0, 0, -1, 1));
        due.outOfRange("power, there are 20 too", Tours::full, t -> t.addLamp(0, 0, 0, 0));

        due.promise(19, "Throws `IllegalStateException` if there are 20");
        due.takes("there are 19", () -> Tours.lamps(19), t -> t.addLamp(0, 0, 0, 1));
        due.notNow("there are 20", () -> Tours.lamps(20), t -> t.addLamp(0, 0, 0, 1));
        due.notNow("all is full", Tours::full, t -> t.addLamp(3, 3, 2, 100));
        due.notNow("all are borrowed", () -> Tours.borrowedLamps(20), t -> t.addLamp(0, 0, 0, 1));
    }

    private void borrow() {
        due.promise(20, "Lets a stage borrow a lamp, for an area there.");
        CueTour tour = Tours.lit(100);
        tour.borrow(0, 2, 0);
        due.is("light there", tour.light(2, 0, 0), 100);
        due.is("none at its home", tour.light(0, 0, 0), 0);
        due.is("its wear goes with it", borrowedWear(), 7);

        due.promise(20, "`lamp`: a lamp");
        due.numbersOf(20, Tours::lamps, (t, v) -> t.borrow(v, (v + 1) % 4, 0));

        due.promise(20, "`stage`: where it is from then on");
        due.numbers(3, LampEdges::awayFromEnds, (t, v) -> t.borrow(v == 0 ? 1 : 0, v, 0));
        for (int stage = 1; stage < 4; stage++) {
            CueTour to = Tours.lit(100);
            to.borrow(0, stage, 0);
            due.is("from stage 0", to.whereIs(0), stage);
        }

        due.promise(20, "`area`: 0 to 3: for which area it is from then on");
        due.numbers(3, Tours::small, (t, v) -> t.borrow(0, 1, v));
        for (int area = 0; area < 4; area++) {
            CueTour to = Tours.lit(100);
            to.borrow(0, 1, area);
            due.is("a channel of the area", to.laidOn(1, area), 1);
            due.is("a channel of another", to.laidOn(1, (area + 3) % 4), 0);
        }

        due.promise(20, "Returns the stage where it was.");
        CueTour told = Tours.lamps(4);
        due.is("stage 3", told.borrow(3, 0, 3), 3);
        due.is("stage 0", told.borrow(0, 3, 0), 0);
        told.bringBack(3);
        due.is("stage 3 once more", told.borrow(3, 1, 0), 3);

        due.promise(20, "Throws `IndexOutOfBoundsException` if there is no such lamp, stage or area");
        due.noSuch("no lamps", Tours::empty, t -> t.borrow(0, 0, 0));
        due.noSuch("stage of a borrowed lamp", () -> Tours.borrowedLamps(1), t -> t.borrow(0, 4, 0));
        due.noSuch("area of a borrowed lamp", () -> Tours.borrowedLamps(1), t -> t.borrow(0, 2, 4));
        due.noSuch("area, its home", Tours::small, t -> t.borrow(0, 0, -1));
        due.noSuch("lamp 20", Tours::full, t -> t.borrow(20, 0, 0));

        due.promise(20, "Throws `IllegalStateException` if it is not at its home, or stage is its home");
        due.takes("another stage", () -> Tours.lamps(1), t -> t.borrow(0, 1, 0));
        due.notNow("its home", () -> Tours.lamps(1), t -> t.borrow(0, 0, 0));
        due.notNow("its home, for another area", () -> Tours.lamps(1), t -> t.borrow(0, 0, 3));
        due.notNow("borrowed, a third stage", () -> Tours.borrowedLamps(1), t -> t.borrow(0, 3, 0));
        due.notNow("borrowed, where it is", () -> Tours.borrowedLamps(1), t -> t.borrow(0, 1, 1));
        due.notNow("borrowed, where it is, for another area", () -> Tours.borrowedLamps(1), t -> t.borrow(0, 1, 2));
        due.notNow("borrowed, its home", () -> Tours.borrowedLamps(1), t -> t.borrow(0, 0, 0));
    }

    private static int borrowedWear() {
        CueTour tour = Tours.worn(7);
        tour.borrow(0, 3, 3);
        return tour.wear(0);
    }

    /** A lamp of stage 0 and one of stage 2, so that any stage can borrow one of the two. */
    private static CueTour awayFromEnds() {
        CueTour tour = Tours.lit(100);
        tour.addLamp(2, 0, 0, 50);
        return tour;
    }

    private void bringBack() {
        due.promise(21, "Brings a lamp back to its home, where it is for the area for which it was there.");
        for (int area = 0; area < 4; area++) {
            CueTour tour = Tours.lines(1);
            tour.addLamp(1, area, 0, 1);
            tour.borrow(0, 2, (area + 1) % 4);
            tour.bringBack(0);
            due.is("its home", tour.whereIs(0), 1);
            due.is("its area there", tour.laidOn(1, area), 1);
            due.is("not the area elsewhere", tour.laidOn(1, (area + 1) % 4), 0);
            due.is("no more where it was", tour.laidOn(2, (area + 1) % 4), 0);
        }

        due.promise(21, "`lamp`: a lamp");
        due.numbersOf(20, Tours::borrowedLamps, CueTour::bringBack);

        due.promise(21, "Returns the stage where it was.");
        CueTour told = Tours.lamps(4);
        told.borrow(0, 3, 0);
        told.borrow(3, 0, 0);
        due.is("stage 3", told.bringBack(0), 3);
        due.is("stage 0", told.bringBack(3), 0);

        due.promise(21, "Throws `IndexOutOfBoundsException` if there is no such lamp");
        due.noSuch("no lamps", Tours::empty, t -> t.bringBack(0));
        due.noSuch("lamp 20", Tours::full, t -> t.bringBack(20));
        due.noSuch("lamp -1", Tours::full, t -> t.bringBack(-1));

        due.promise(21, "Throws `IllegalStateException` if it is at its home");
        due.takes("borrowed", () -> Tours.borrowedLamps(1), t -> t.bringBack(0));
        due.notNow("never borrowed", () -> Tours.lamps(1), t -> t.bringBack(0));
        due.notNow("brought back", LampEdges::broughtBack, t -> t.bringBack(0));
    }

    private static CueTour broughtBack() {
        CueTour tour = Tours.borrowedLamps(1);
        tour.bringBack(0);
        return tour;
    }

    private void replace() {
        due.promise(22, "Replaces what burns in a lamp: its wear is 0 then.");
        for (int wear : new int[] {0, 1, 299, 300, 330}) {
            CueTour tour = Tours.worn(wear);
            tour.replace(0);
            due.is("wear", tour.wear(0), 0);
            due.is("level", tour.lampLevel(0, 0), 100);
        }
        CueTour two = Tours.lit(100);
        two.addLamp(0, 0, 0, 1);
        two.perform(0);
        two.replace(0);
        due.is("the other one's wear", two.wear(1), 10);
        two.perform(0);
        due.is("it wears on from 0", two.wear(0), 10);
        two.borrow(1, 2, 2);
        two.replace(1);
        due.is("borrowed", two.wear(1), 0);
        due.is("where it is", two.whereIs(1), 2);

        due.promise(22, "`lamp`: a lamp");
        due.numbersOf(20, Tours::lamps, CueTour::replace);

        due.promise(22, "Returns the wear before.");
        for (int wear : new int[] {0, 1, 299, 300, 330}) {
            due.is("wear before", Tours.worn(wear).replace(0), wear);
        }
        CueTour twice = Tours.worn(300);
        due.is("once", twice.replace(0), 300);
        due.is("twice", twice.replace(0), 0);

        due.promise(22, "Throws `IndexOutOfBoundsException` if there is no such lamp");
        due.noSuch("no lamps", Tours::empty, t -> t.replace(0));
        due.noSuch("lamp 20", Tours::full, t -> t.replace(20));
    }

    private void lamps() {
        due.promise(23, "Returns how many lamps there are.");
        for (int count : new int[] {0, 1, 19, 20}) {
            due.is("so many", Tours.lamps(count).lamps(), count);
            due.is("all borrowed", Tours.borrowedLamps(count).lamps(), count);
        }
        due.is("a dead one", Tours.worn(300).lamps(), 1);
    }

    private void whereIs() {
        due.promise(24, "Returns the stage where a lamp is.");
        for (int lamp = 0; lamp < 20; lamp++) {
            due.is("at its home", Tours.lamps(20).whereIs(lamp), lamp % 4);
            due.is("borrowed", Tours.borrowedLamps(20).whereIs(lamp), (lamp + 1) % 4);
        }

        due.promise(24, "`lamp`: a lamp");
        due.numbersOf(20, Tours::lamps, CueTour::whereIs);

        due.promise(24, "Throws `IndexOutOfBoundsException` if there is no such lamp");
        due.noSuch("no lamps", Tours::empty, t -> t.whereIs(0));
        due.noSuch("lamp 20", Tours::full, t -> t.whereIs(20));
    }

    private void wear() {
        due.promise(25, "Returns the wear of a lamp.");
        for (int wear : new int[] {0, 1, 299, 300, 330}) {
            due.is("worn", Tours.worn(wear).wear(0), wear);
        }
        CueTour tour = Tours.lamps(20);
        tour.setChannel(0, 0, 1);
        tour.perform(3);
        for (int lamp = 0; lamp < 20; lamp++) {
            // Those of stage 3 and colour 1; the others are dark, or elsewhere.
            due.is("of lamp " + lamp, tour.wear(lamp), lamp == 7 || lamp == 19 ? 10 : 0);
        }

        due.promise(25, "`lamp`: a lamp");
        due.numbersOf(20, Tours::lamps, CueTour::wear);

        due.promise(25, "Throws `IndexOutOfBoundsException` if there is no such lamp");
        due.noSuch("no lamps", Tours::empty, t -> t.wear(0));
        due.noSuch("lamp 20", Tours::full, t -> t.wear(20));
    }

    private void laidOn() {
        due.promise(26, "Returns on which lamps a channel is laid on a stage.");
        CueTour tour = Tours.lines(1);
        tour.addLamp(3, 1, 0, 1);
        due.is("its area and colour", tour.laidOn(3, 9), 1);
        due.is("another area", tour.laidOn(3, 8), 0);
        due.is("another stage", tour.laidOn(2, 9), 0);
        tour.addLamp(3, 1, 1, 1);
        due.is("not another colour", tour.laidOn(3, 9), 1);
        tour.setChannel(9, 1, 1);
        due.is("that colour", tour.laidOn(3, 9), 2);
        tour.setChannel(9, 1, 2);
        due.is("a colour of none", tour.laidOn(3, 9), 3);

        due.promise(26, "`stage`: 0 to 3");
        due.numbers(3, Tours::full, (t, v) -> t.laidOn(v, 0));
        due.numbers(3, Tours::empty, (t, v) -> t.laidOn(v, 9));

        due.promise(26, "`channel`: 0 to 9");
        due.numbers(9, Tours::full, (t, v) -> t.laidOn(0, v));
        due.numbers(9, Tours::empty, (t, v) -> t.laidOn(3, v));

        due.promise(26, "Returns the set, bit l for the lamp l.");
        for (int lamp = 0; lamp < 20; lamp++) {
            due.is("lamp " + lamp + " alone", alone(lamp).laidOn(1, 2), 1 << lamp);
            due.is("all but lamp " + lamp, alone(lamp).laidOn(0, 2), (1 << 20) - 1 - (1 << lamp));
        }
        due.is("none", new CueTour().laidOn(3, 9), 0);

        due.promise(26, "Throws `IndexOutOfBoundsException` if there is no such stage or channel");
        due.noSuch("stage 4", Tours::full, t -> t.laidOn(4, 9));
        due.noSuch("channel 10", Tours::full, t -> t.laidOn(3, 10));
        due.noSuch("both", Tours::empty, t -> t.laidOn(-1, -1));
    }

    /** All lamps at stage 0 for area 2, but one at stage 1. */
    private static CueTour alone(int which) {
        CueTour tour = Tours.lines(1);
        for (int lamp = 0; lamp < 20; lamp++) {
            tour.addLamp(lamp == which ? 1 : 0, 2, 0, 1);
        }
        return tour;
    }

    private void lampLevel() {
        due.promise(27, "Returns the level of a lamp at a time.");
        CueTour tour = Tours.lines(1);
        tour.addCue(0, 1, 4);
        tour.change(0, 0, 100);
        tour.addCue(0, 5, 0);
        tour.change(1, 8, 30);
        tour.change(1, 0, 0);
        tour.addLamp(0, 0, 2, 1);
        int[] levels = {0, 0, 25, 50, 75, 30, 30};
        for (int time = 0; time < levels.length; time++) {
            due.is("at " + time, tour.lampLevel(0, time), levels[time]);
        }

        due.promise(27, "`lamp`: a lamp");
        due.numbersOf(20, Tours::lamps, (t, v) -> t.lampLevel(v, 0));

        due.promise(27, "`time`: 0 to 2000");
        due.range(0, 2000, Tours::small, (t, v) -> t.lampLevel(1, v));
        due.is("0", Tours.lit(70).lampLevel(0, 0), 70);
        due.is("2000", Tours.lit(70).lampLevel(0, 2000), 70);

        due.promise(27, "Throws `IndexOutOfBoundsException` if there is no such lamp");
        due.noSuch("no lamps", Tours::empty, t -> t.lampLevel(0, 0));
        due.noSuch("lamp 20, with a wrong time", Tours::full, t -> t.lampLevel(20, 2001));
        due.noSuch("lamp -1, with a wrong time", Tours::full, t -> t.lampLevel(-1, -1));

        due.promise(27, "Throws `IllegalArgumentException` if time is out of range");
        due.outOfRange("-1", Tours::full, t -> t.lampLevel(19, -1));
        due.outOfRange("2001", Tours::full, t -> t.lampLevel(19, 2001));
    }
}
