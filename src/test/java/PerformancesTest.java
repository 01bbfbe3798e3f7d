/** Promises 32 to 36: performances and their logs. */
public final class PerformancesTest {
    private static final Due DUE = new Due("PerformancesTest");

    private PerformancesTest() {
    }

    public static void main(String[] args) {
        promise32();
        wearGrowsByTheWearBefore();
        wearByEachLamp();
        wearOfAllLamps();
        refusalsOfPerform();
        promise33();
        promise34();
        promise35();
        promise36();
        DUE.end();
    }

    private static CueTour toured() {
        CueTour tour = Tours.withLines(10, 20, 5);
        tour.addCue(0, 5, 0);
        tour.change(0, 0, 50);
        tour.addLamp(0, 0, 0, 100);
        tour.need(0, 0, 50);
        tour.need(1, 0, 51);
        tour.need(1, 3, 1);
        tour.need(2, 2, 1);
        return tour;
    }

    private static void promise32() {
        CueTour tour = toured();
        DUE.is("32: lines that were short", tour.perform(0), 2);
        DUE.is("32: wear", tour.wear(0), 30);
        DUE.is("32: on another stage", tour.perform(3), 3);
        DUE.is("32: no wear there", tour.wear(0), 30);
        tour.cut(1, true);
        DUE.is("32: without the cut one", tour.perform(0), 1);
        DUE.is("32: wear of the shorter script", tour.wear(0), 40);
        tour.move(0, 0, 60, 0);
        DUE.is("32: a cue behind the script", tour.perform(0), 2);
        DUE.is("32: lights nothing", tour.wear(0), 40);
        tour.move(0, 0, 0, 0);
        tour.addCue(2, 4, 0);
        tour.change(1, 0, 0);
        DUE.is("32: out in the last second", tour.perform(0), 1);
        DUE.is("32: wear up to it", tour.wear(0), 54);
        DUE.is("32: logs", tour.logs(), 5);
    }

    private static void wearGrowsByTheWearBefore() {
        CueTour tour = new CueTour();
        for (int line = 0; line < 30; line++) {
            tour.addLine(30);
        }
        tour.need(29, 0, 100);
        tour.addCue(0, 0, 0);
        tour.change(0, 0, 100);
        tour.addLamp(0, 0, 0, 100);
        DUE.is("32: none dies while it plays", tour.perform(0), 0);
        DUE.is("32: wear over 300", tour.wear(0), 900);
        DUE.is("32: dead", tour.perform(0), 1);
        DUE.is("32: a dead one wears no more", tour.wear(0), 900);
        tour.replace(0);
        DUE.is("32: replaced", tour.perform(0), 0);
        DUE.is("32: wears again", tour.wear(0), 900);
    }

    private static void wearByEachLamp() {
        CueTour tour = Tours.withLines(10);
        tour.addCue(0, 2, 0);
        tour.addCue(0, 5, 0);
        tour.change(0, 0, 1);
        tour.change(1, 1, 90);
        tour.addLamp(0, 0, 0, 1);
        tour.addLamp(0, 1, 0, 1);
        tour.addLamp(0, 2, 0, 1);
        tour.addLamp(1, 0, 0, 1);
        tour.addLamp(1, 0, 0, 1);
        tour.borrow(4, 0, 0);
        tour.perform(0);
        DUE.is("32: wear by its level, not its light", tour.wear(0), 8);
        DUE.is("32: by its own channel", tour.wear(1), 5);
        DUE.is("32: dark all along", tour.wear(2), 0);
        DUE.is("32: on another stage", tour.wear(3), 0);
        DUE.is("32: borrowed", tour.wear(4), 8);
        tour.bringBack(4);
        tour.perform(1);
        DUE.is("32: back at its home", tour.wear(4), 16);
        DUE.is("32: at another home", tour.wear(0), 8);
    }

    private static void wearOfAllLamps() {
        CueTour tour = Tours.withAllLamps();
        tour.addCue(0, 3, 0);
        tour.change(0, 1, 5);
        tour.perform(3);
        for (int lamp = 0; lamp < 20; lamp++) {
            // Of the lamps 7 and 19 alone the stage is 3 and the area 1.
            DUE.is("32: lamp " + lamp, tour.wear(lamp), lamp == 7 || lamp == 19 ? 7 : 0);
        }
    }

    private static void refusalsOfPerform() {
        DUE.noSuch("32: stage below", Tours::small, t -> t.perform(-1));
        DUE.noSuch("32: stage above", Tours::small, t -> t.perform(4));
        DUE.noSuch("32: stage first", Tours::empty, t -> t.perform(4));
        DUE.notNow("32: no lines", Tours::empty, t -> t.perform(0));
        DUE.notNow("32: all cut", PerformancesTest::smallAllCut, t -> t.perform(0));
        DUE.notNow("32: twenty logs", Tours::withAllLogs, t -> t.perform(0));
        DUE.noSuch("32: stage ahead of logs", Tours::withAllLogs, t -> t.perform(-1));
    }

    private static CueTour smallAllCut() {
        CueTour tour = Tours.small();
        tour.cut(0, true);
        tour.cut(1, true);
        tour.cut(2, true);
        return tour;
    }

    private static void promise33() {
        CueTour tour = toured();
        DUE.is("33: none", tour.logs(), 0);
        tour.perform(2);
        DUE.is("33: one", tour.logs(), 1);
        tour.cut(0, true);
        DUE.is("33: a cut changes none", tour.logs(), 1);
        DUE.is("33: all", Tours.withAllLogs().logs(), 20);
    }

    private static void promise34() {
        CueTour tour = toured();
        tour.perform(2);
        tour.perform(0);
        tour.perform(3);
        DUE.is("34: first", tour.stageOf(0), 2);
        DUE.is("34: second", tour.stageOf(1), 0);
        DUE.is("34: third", tour.stageOf(2), 3);
        DUE.is("34: last of all", Tours.withAllLogs().stageOf(19), 3);
        DUE.noSuch("34: log below", Tours::small, t -> t.stageOf(-1));
        DUE.noSuch("34: log above", Tours::small, t -> t.stageOf(1));
        DUE.noSuch("34: no log", Tours::empty, t -> t.stageOf(0));
    }

    private static void promise35() {
        CueTour tour = toured();
        tour.perform(0);
        tour.need(0, 1, 2);
        tour.need(1, 3, 0);
        tour.cut(2, true);
        tour.perform(0);
        tour.addLine(3);
        DUE.is("35: not short", tour.wasShortOf(0, 0), 0);
        DUE.is("35: set of areas", tour.wasShortOf(0, 1), 9);
        DUE.is("35: kept, cut then", tour.wasShortOf(0, 2), 4);
        DUE.is("35: by the needs then", tour.wasShortOf(1, 0), 2);
        DUE.is("35: fewer areas", tour.wasShortOf(1, 1), 1);
        DUE.is("35: was cut", tour.wasShortOf(1, 2), 0);
        tour.cut(2, false);
        DUE.is("35: was cut, is in again", tour.wasShortOf(1, 2), 0);
        tour.need(3, 0, 100);
        DUE.is("35: was not there", tour.wasShortOf(1, 3), 0);
        DUE.noSuch("35: log below", Tours::small, t -> t.wasShortOf(-1, 0));
        DUE.noSuch("35: log above", Tours::small, t -> t.wasShortOf(1, 0));
        DUE.noSuch("35: line below", Tours::small, t -> t.wasShortOf(0, -1));
        DUE.noSuch("35: line above", Tours::small, t -> t.wasShortOf(0, 3));
        DUE.noSuch("35: no log", () -> Tours.withLines(1), t -> t.wasShortOf(0, 0));
    }

    private static void promise36() {
        CueTour tour = toured();
        tour.perform(0);
        DUE.is("36: never", tour.timesShort(0), 0);
        DUE.is("36: once, of two areas", tour.timesShort(1), 1);
        tour.perform(1);
        tour.cut(2, true);
        tour.perform(2);
        DUE.is("36: twice", tour.timesShort(0), 2);
        DUE.is("36: three times", tour.timesShort(1), 3);
        DUE.is("36: not while it was cut", tour.timesShort(2), 2);
        tour.addLine(4);
        tour.need(3, 0, 100);
        DUE.is("36: was not there", tour.timesShort(3), 0);
        DUE.noSuch("36: line below", Tours::small, t -> t.timesShort(-1));
        DUE.noSuch("36: line above", Tours::small, t -> t.timesShort(3));
        DUE.noSuch("36: no line", Tours::empty, t -> t.timesShort(0));
    }
}
