/** Promises 19 to 31: stages and lamps. */
public final class LampsTest {
    private static final Due DUE = new Due("LampsTest");
    private static final int NONE = CueTour.NONE;

    private LampsTest() {
    }

    public static void main(String[] args) {
        promise19();
        promise20();
        promise21();
        promise22();
        promises23To25();
        promise26();
        promise27();
        promise28();
        promise29();
        promise30();
        promise31();
        promise31OfHarm();
        promise31OfAllLamps();
        DUE.end();
    }

    /** One line of 10 seconds in which the channels 0 to 3 stand at these levels. */
    private static CueTour litTour(int... levels) {
        CueTour tour = Tours.withLines(10);
        tour.addCue(0, 0, 0);
        for (int channel = 0; channel < levels.length; channel++) {
            tour.change(0, channel, levels[channel]);
        }
        return tour;
    }

    /** Wears a lamp on stage 0 by 300, in ten performances of a line of 30 seconds. */
    private static CueTour tourWithDeadLamp() {
        CueTour tour = Tours.withLines(30);
        tour.addCue(0, 0, 0);
        tour.change(0, 0, 100);
        tour.addLamp(0, 0, 0, 100);
        for (int log = 0; log < 10; log++) {
            tour.perform(0);
        }
        return tour;
    }

    private static void promise19() {
        CueTour tour = litTour(100, 100, 100, 100);
        DUE.is("19: first", tour.addLamp(3, 2, 2, 1), 0);
        DUE.is("19: second", tour.addLamp(0, 0, 0, 100), 1);
        DUE.is("19: home", tour.whereIs(0), 3);
        DUE.is("19: wear", tour.wear(0), 0);
        DUE.is("19: area and power", tour.light(3, 2, 0), 1);
        DUE.is("19: colour", tour.setChannel(6, 2, 2), 20);
        DUE.is("19: laid by its colour", tour.laidOn(3, 6), 1);
        DUE.is("19: the last area", tour.addLamp(1, 3, 0, 60), 2);
        DUE.is("19: light there", tour.light(1, 3, 0), 60);
        DUE.noSuch("19: stage below", Tours::small, t -> t.addLamp(-1, 0, 0, 1));
        DUE.noSuch("19: stage above", Tours::small, t -> t.addLamp(4, 0, 0, 1));
        DUE.noSuch("19: area below", Tours::small, t -> t.addLamp(0, -1, 0, 1));
        DUE.noSuch("19: area above", Tours::small, t -> t.addLamp(0, 4, 0, 1));
        DUE.outOfRange("19: colour below", Tours::small, t -> t.addLamp(0, 0, -1, 1));
        DUE.outOfRange("19: colour above", Tours::small, t -> t.addLamp(0, 0, 3, 1));
        DUE.outOfRange("19: power below", Tours::small, t -> t.addLamp(0, 0, 0, 0));
        DUE.outOfRange("19: power above", Tours::small, t -> t.addLamp(0, 0, 0, 101));
        DUE.noSuch("19: stage ahead of power", Tours::small, t -> t.addLamp(4, 0, 0, 0));
        DUE.notNow("19: twenty are there", Tours::withAllLamps, t -> t.addLamp(0, 0, 0, 1));
        DUE.noSuch("19: area first", Tours::withAllLamps, t -> t.addLamp(0, 4, 3, 1));
        DUE.outOfRange("19: range ahead of room", Tours::withAllLamps, t -> t.addLamp(0, 0, 3, 1));
    }

    private static void promise20() {
        CueTour tour = litTour(100, 100);
        tour.addLamp(2, 0, 0, 40);
        DUE.is("20: where it was", tour.borrow(0, 1, 1), 2);
        DUE.is("20: where it is", tour.whereIs(0), 1);
        DUE.is("20: area there", tour.light(1, 1, 0), 40);
        DUE.is("20: not the old area", tour.light(1, 0, 0), 0);
        DUE.is("20: not the old stage", tour.light(2, 0, 0), 0);
        tour.change(0, 3, 50);
        tour.addLamp(2, 0, 0, 40);
        tour.borrow(1, 3, 3);
        DUE.is("20: for the last area, on the last stage", tour.light(3, 3, 0), 20);
        DUE.noSuch("20: lamp below", Tours::small, t -> t.borrow(-1, 2, 0));
        DUE.noSuch("20: lamp above", Tours::small, t -> t.borrow(2, 2, 0));
        DUE.noSuch("20: stage below", Tours::small, t -> t.borrow(0, -1, 0));
        DUE.noSuch("20: stage above", Tours::small, t -> t.borrow(0, 4, 0));
        DUE.noSuch("20: area below", Tours::small, t -> t.borrow(0, 2, -1));
        DUE.noSuch("20: area above", Tours::small, t -> t.borrow(0, 2, 4));
        DUE.noSuch("20: area ahead of home", Tours::small, t -> t.borrow(0, 0, 4));
        DUE.notNow("20: its home", Tours::small, t -> t.borrow(0, 0, 1));
        DUE.notNow("20: borrowed", LampsTest::smallWithBorrowed, t -> t.borrow(0, 2, 1));
        DUE.notNow("20: borrowed, to its home", LampsTest::smallWithBorrowed, t -> t.borrow(0, 0, 1));
        DUE.notNow("20: borrowed, where it is", LampsTest::smallWithBorrowed, t -> t.borrow(0, 1, 1));
    }

    private static CueTour smallWithBorrowed() {
        CueTour tour = Tours.small();
        tour.borrow(0, 1, 1);
        return tour;
    }

    private static void promise21() {
        CueTour tour = litTour(100, 100);
        tour.addLamp(2, 0, 0, 40);
        tour.borrow(0, 1, 1);
        DUE.is("21: where it was", tour.bringBack(0), 1);
        DUE.is("21: home", tour.whereIs(0), 2);
        DUE.is("21: area at home", tour.light(2, 0, 0), 40);
        DUE.is("21: not the other area", tour.light(2, 1, 0), 0);
        DUE.is("21: borrowed again", tour.borrow(0, 3, 1), 2);
        DUE.is("21: back again", tour.bringBack(0), 3);
        DUE.noSuch("21: lamp below", Tours::small, t -> t.bringBack(-1));
        DUE.noSuch("21: lamp above", Tours::small, t -> t.bringBack(2));
        DUE.notNow("21: at home", Tours::small, t -> t.bringBack(0));
    }

    private static void promise22() {
        CueTour tour = tourWithDeadLamp();
        DUE.is("22: dead", tour.lampLevel(0, 0), 0);
        DUE.is("22: wear before", tour.replace(0), 300);
        DUE.is("22: wear", tour.wear(0), 0);
        DUE.is("22: burns", tour.lampLevel(0, 0), 100);
        DUE.is("22: again", tour.replace(0), 0);
        DUE.noSuch("22: lamp below", Tours::small, t -> t.replace(-1));
        DUE.noSuch("22: lamp above", Tours::small, t -> t.replace(2));
        DUE.noSuch("22: no lamp", Tours::empty, t -> t.replace(0));
    }

    private static void promises23To25() {
        CueTour tour = smallWithBorrowed();
        DUE.is("23: lamps", tour.lamps(), 2);
        DUE.is("23: all", Tours.withAllLamps().lamps(), 20);
        DUE.is("24: borrowed", tour.whereIs(0), 1);
        DUE.is("24: at home", tour.whereIs(1), 1);
        DUE.is("25: burnt on its stage", tour.wear(0), 27);
        DUE.is("25: not on another", tour.wear(1), 0);
        DUE.noSuch("24: lamp below", Tours::small, t -> t.whereIs(-1));
        DUE.noSuch("24: lamp above", Tours::small, t -> t.whereIs(2));
        DUE.noSuch("25: lamp below", Tours::small, t -> t.wear(-1));
        DUE.noSuch("25: lamp above", Tours::small, t -> t.wear(2));
    }

    private static void promise26() {
        CueTour tour = new CueTour();
        DUE.is("26: no lamps", tour.laidOn(0, 0), 0);
        tour.addLamp(0, 0, 1, 9);
        tour.addLamp(0, 0, 2, 9);
        tour.addLamp(0, 1, 0, 9);
        tour.addLamp(1, 0, 0, 9);
        DUE.is("26: none of the colour", tour.laidOn(0, 0), 3);
        tour.setChannel(0, 0, 2);
        DUE.is("26: one of the colour", tour.laidOn(0, 0), 2);
        DUE.is("26: another channel of the area", tour.laidOn(0, 4), 3);
        DUE.is("26: another area", tour.laidOn(0, 1), 4);
        DUE.is("26: another stage", tour.laidOn(1, 0), 8);
        DUE.is("26: none for the area", tour.laidOn(1, 1), 0);
        tour.borrow(3, 0, 0);
        DUE.is("26: a borrowed one of the colour", tour.laidOn(0, 4), 8);
        tour.addLamp(0, 0, 0, 9);
        DUE.is("26: several of the colour", tour.laidOn(0, 8), 24);
        tour.setChannel(8, 3, 0);
        DUE.is("26: area of the channel", tour.laidOn(0, 8), 0);
        DUE.is("26: a dead one too", tourWithDeadLamp().laidOn(0, 4), 1);
        DUE.is("26: lamp 19", Tours.withAllLamps().laidOn(3, 1), 1 << 7 | 1 << 19);
        DUE.noSuch("26: stage below", Tours::small, t -> t.laidOn(-1, 0));
        DUE.noSuch("26: stage above", Tours::small, t -> t.laidOn(4, 0));
        DUE.noSuch("26: channel below", Tours::small, t -> t.laidOn(0, -1));
        DUE.noSuch("26: channel above", Tours::small, t -> t.laidOn(0, 10));
    }

    private static void promise27() {
        CueTour tour = litTour(30, 60, 0, 0, 80, 10, 0, 0, 20);
        tour.addLamp(0, 0, 0, 1);
        tour.addLamp(0, 3, 0, 1);
        DUE.is("27: the greatest of those laid", tour.lampLevel(0, 9), 80);
        DUE.is("27: laid, but dark", tour.lampLevel(1, 9), 0);
        tour.addLamp(0, 0, 1, 1);
        tour.setChannel(4, 0, 1);
        DUE.is("27: those of its colour", tour.lampLevel(0, 9), 30);
        DUE.is("27: the other colour", tour.lampLevel(2, 9), 80);
        tour.borrow(0, 2, 1);
        DUE.is("27: where it is", tour.lampLevel(0, 9), 60);
        DUE.is("27: behind the script", tour.lampLevel(0, 2000), 60);
        DUE.is("27: the first channel goes on the other then", tour.lampLevel(2, 0), 80);
        tour.setChannel(1, 0, 0);
        DUE.is("27: a channel less", tour.lampLevel(0, 9), 10);
        tour.setChannel(5, 0, 0);
        tour.setChannel(9, 0, 0);
        DUE.is("27: no channel", tour.lampLevel(0, 9), 0);
        tour.change(0, 9, 15);
        tour.setChannel(9, 1, 2);
        DUE.is("27: the last channel", tour.lampLevel(0, 9), 15);
        deadLamps();
        DUE.noSuch("27: lamp below", Tours::small, t -> t.lampLevel(-1, 0));
        DUE.noSuch("27: lamp above", Tours::small, t -> t.lampLevel(2, 0));
        DUE.noSuch("27: lamp first", Tours::small, t -> t.lampLevel(2, 2001));
        DUE.outOfRange("27: time below", Tours::small, t -> t.lampLevel(0, -1));
        DUE.outOfRange("27: time above", Tours::small, t -> t.lampLevel(0, 2001));
    }

    private static void deadLamps() {
        CueTour tour = Tours.withLines(30, 29);
        tour.addCue(0, 0, 0);
        tour.change(0, 0, 70);
        tour.addLamp(0, 0, 0, 100);
        for (int log = 0; log < 9; log++) {
            tour.cut(1, log != 0);
            tour.perform(0);
        }
        DUE.is("27: wear of one that lives", tour.wear(0), 299);
        DUE.is("27: one less than dead", tour.lampLevel(0, 5), 70);
        tour.addLine(1);
        tour.cut(0, true);
        tour.move(0, 2, 0, 0);
        tour.perform(0);
        DUE.is("27: wear of a dead one", tour.wear(0), 300);
        DUE.is("27: dead", tour.lampLevel(0, 5), 0);
        tour.addLamp(0, 0, 1, 100);
        DUE.is("27: laid on the dead one still", tour.lampLevel(1, 5), 0);
    }

    private static void promise28() {
        CueTour tour = litTour(50, 33);
        DUE.is("28: no lamps", tour.light(0, 0, 0), 0);
        tour.addLamp(0, 0, 0, 33);
        DUE.is("28: rounded down", tour.light(0, 0, 0), 16);
        tour.addLamp(0, 0, 0, 33);
        DUE.is("28: rounded down for each", tour.light(0, 0, 0), 32);
        tour.addLamp(0, 1, 0, 100);
        DUE.is("28: for each area", tour.light(0, 1, 0), 33);
        tour.addLamp(1, 0, 0, 100);
        DUE.is("28: on each stage", tour.light(1, 0, 0), 50);
        tour.borrow(3, 0, 0);
        DUE.is("28: with a borrowed one", tour.light(0, 0, 0), 82);
        tour.addLamp(0, 0, 2, 36);
        DUE.is("28: 100 just", tour.light(0, 0, 0), 82);
        tour.change(0, 4, 50);
        tour.setChannel(4, 0, 2);
        DUE.is("28: 100 just, lit", tour.light(0, 0, 0), 100);
        tour.change(0, 4, 49);
        DUE.is("28: one less than 100", tour.light(0, 0, 0), 99);
        tour.change(0, 4, 50);
        tour.addLamp(0, 0, 0, 100);
        DUE.is("28: no more than 100", tour.light(0, 0, 0), 100);
        DUE.is("28: the last time", tour.light(0, 0, 2000), 100);
        DUE.is("28: a dead one gives none", tourWithDeadLamp().light(0, 0, 0), 0);
        DUE.noSuch("28: stage below", Tours::small, t -> t.light(-1, 0, 0));
        DUE.noSuch("28: stage above", Tours::small, t -> t.light(4, 0, 0));
        DUE.noSuch("28: area below", Tours::small, t -> t.light(0, -1, 0));
        DUE.noSuch("28: area above", Tours::small, t -> t.light(0, 4, 0));
        DUE.noSuch("28: area ahead of time", Tours::small, t -> t.light(0, 4, -1));
        DUE.outOfRange("28: time below", Tours::small, t -> t.light(0, 0, -1));
        DUE.outOfRange("28: time above", Tours::small, t -> t.light(0, 0, 2001));
    }

    private static void promise29() {
        CueTour tour = Tours.withLines(10, 10);
        tour.addCue(0, 9, 0);
        tour.addCue(1, 0, 0);
        tour.change(0, 0, 60);
        tour.change(1, 0, 20);
        tour.addLamp(2, 0, 0, 100);
        DUE.is("29: needs nothing", tour.shortOf(3, 0), 0);
        tour.need(0, 0, 60);
        DUE.is("29: light of the last second is enough", tour.shortOf(2, 0), 0);
        tour.need(0, 0, 61);
        DUE.is("29: one less than it needs", tour.shortOf(2, 0), 1);
        tour.need(0, 3, 1);
        tour.need(0, 1, 1);
        DUE.is("29: set of areas", tour.shortOf(2, 0), 11);
        DUE.is("29: other line", tour.shortOf(2, 1), 0);
        tour.need(1, 0, 30);
        DUE.is("29: by its own second", tour.shortOf(2, 1), 1);
        tour.cut(0, true);
        DUE.is("29: cut", tour.shortOf(2, 0), 0);
        DUE.is("29: other stage", tour.shortOf(1, 1), 1);
        tour.change(1, 0, NONE);
        DUE.is("29: by the one folded in", tour.shortOf(2, 1), 0);
        CueTour dead = tourWithDeadLamp();
        dead.need(0, 0, 1);
        DUE.is("29: a dead lamp gives none", dead.shortOf(0, 0), 1);
        DUE.noSuch("29: stage below", Tours::small, t -> t.shortOf(-1, 0));
        DUE.noSuch("29: stage above", Tours::small, t -> t.shortOf(4, 0));
        DUE.noSuch("29: line below", Tours::small, t -> t.shortOf(0, -1));
        DUE.noSuch("29: line above", Tours::small, t -> t.shortOf(0, 3));
        DUE.noSuch("29: no line", Tours::empty, t -> t.shortOf(0, 0));
    }

    private static void promise30() {
        CueTour tour = litTour(100, 100);
        tour.addLine(5);
        tour.addLamp(1, 0, 0, 50);
        tour.addLamp(3, 1, 0, 50);
        DUE.is("30: none short", tour.bestStage(), 0);
        tour.need(0, 0, 50);
        DUE.is("30: fewest", tour.bestStage(), 1);
        tour.need(1, 1, 50);
        DUE.is("30: of several the lowest", tour.bestStage(), 1);
        tour.need(0, 1, 50);
        DUE.is("30: lines, not areas", tour.bestStage(), 3);
        tour.cut(1, true);
        DUE.is("30: cut lines are not short", tour.bestStage(), 0);
        tour.need(0, 1, 0);
        tour.borrow(0, 2, 0);
        DUE.is("30: with a borrowed lamp", tour.bestStage(), 2);
    }

    private static void promise31() {
        CueTour tour = litTour(100, 100);
        tour.addLine(5);
        tour.need(0, 0, 50);
        tour.need(1, 0, 30);
        DUE.is("31: no lamps", tour.bestToBorrow(0, 0), NONE);
        tour.addLamp(0, 0, 0, 10);
        tour.addLamp(1, 3, 2, 19);
        DUE.is("31: by none fewer", tour.bestToBorrow(0, 0), NONE);
        tour.addLamp(1, 2, 2, 20);
        DUE.is("31: by its own light", tour.bestToBorrow(0, 0), NONE);
        tour.setChannel(8, 0, 2);
        tour.change(0, 8, 100);
        DUE.is("31: one line fewer", tour.bestToBorrow(0, 0), 2);
        tour.addLamp(2, 2, 0, 40);
        tour.addLamp(3, 2, 0, 50);
        DUE.is("31: two lines fewer, the lowest", tour.bestToBorrow(0, 0), 3);
        DUE.is("31: for another area", tour.bestToBorrow(0, 1), NONE);
        DUE.is("31: a lamp of its own is none", tour.bestToBorrow(3, 0), 3);
        tour.borrow(3, 1, 0);
        DUE.is("31: those that are borrowed stay", tour.bestToBorrow(0, 0), 4);
        DUE.is("31: nothing has moved", tour.whereIs(4), 3);
        DUE.is("31: nor its area", tour.laidOn(3, 2), 16);
        tour.cut(0, true);
        tour.cut(1, true);
        DUE.is("31: none short", tour.bestToBorrow(0, 0), NONE);
        DUE.noSuch("31: stage below", Tours::small, t -> t.bestToBorrow(-1, 0));
        DUE.noSuch("31: stage above", Tours::small, t -> t.bestToBorrow(4, 0));
        DUE.noSuch("31: area below", Tours::small, t -> t.bestToBorrow(0, -1));
        DUE.noSuch("31: area above", Tours::small, t -> t.bestToBorrow(0, 4));
    }

    /** A lamp of the channel's colour takes the channel from the lamps on which it was laid. */
    private static void promise31OfHarm() {
        CueTour tour = litTour(100);
        tour.need(0, 0, 60);
        tour.addLamp(0, 0, 1, 50);
        tour.addLamp(1, 0, 0, 50);
        tour.addLamp(1, 0, 1, 10);
        DUE.is("31: takes the channel away", tour.bestToBorrow(0, 0), 2);
        tour.need(0, 0, 61);
        DUE.is("31: not enough", tour.bestToBorrow(0, 0), NONE);
        tour.need(0, 0, 50);
        DUE.is("31: none is short now", tour.bestToBorrow(0, 0), NONE);
        CueTour other = litTour(100);
        other.need(0, 0, 1);
        other.addLamp(1, 3, 0, 1);
        other.addLamp(1, 3, 0, 100);
        DUE.is("31: the lamp 0", other.bestToBorrow(0, 0), 0);
        other.addLamp(0, 0, 0, 1);
        other.need(0, 0, 100);
        DUE.is("31: of the colour, the channel on both", other.bestToBorrow(0, 0), 1);
    }

    private static void promise31OfAllLamps() {
        CueTour tour = Tours.withAllLamps();
        tour.addCue(0, 0, 0);
        tour.change(0, 3, 100);
        tour.need(0, 3, 20);
        DUE.is("31: the last lamp", tour.bestToBorrow(0, 3), 19);
        tour.need(0, 3, 19);
        DUE.is("31: the last but one", tour.bestToBorrow(0, 3), 18);
        DUE.is("31: not one of its own", tour.bestToBorrow(2, 3), 19);
    }
}
