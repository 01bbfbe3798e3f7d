/** Promises 8 to 18: channels and cues. */
public final class CuesTest {
    private static final Due DUE = new Due("CuesTest");
    private static final int NONE = CueTour.NONE;

    private CuesTest() {
    }

    public static void main(String[] args) {
        promise8();
        promise9();
        promise10();
        promise11();
        promise12();
        promise13();
        promise14();
        promise15();
        promise16();
        promises17And18();
        refusalsOfLevels();
        DUE.end();
    }

    private static void promise8() {
        CueTour tour = new CueTour();
        for (int channel = 0; channel < 10; channel++) {
            DUE.is("8: at first", tour.setChannel(channel, 3 - channel % 4, 2), channel % 4 * 10);
            DUE.is("8: then", tour.setChannel(channel, 0, 1), (3 - channel % 4) * 10 + 2);
        }
        DUE.is("8: kept", tour.setChannel(9, 3, 0), 1);
        DUE.noSuch("8: channel below", Tours::small, t -> t.setChannel(-1, 0, 0));
        DUE.noSuch("8: channel above", Tours::small, t -> t.setChannel(10, 0, 0));
        DUE.noSuch("8: area below", Tours::small, t -> t.setChannel(0, -1, 0));
        DUE.noSuch("8: area above", Tours::small, t -> t.setChannel(0, 4, 0));
        DUE.noSuch("8: channel ahead of colour", Tours::small, t -> t.setChannel(10, 0, 3));
        DUE.noSuch("8: area ahead of colour", Tours::small, t -> t.setChannel(0, 4, -1));
        DUE.outOfRange("8: colour below", Tours::small, t -> t.setChannel(0, 1, -1));
        DUE.outOfRange("8: colour above", Tours::small, t -> t.setChannel(0, 1, 3));
    }

    private static void promise9() {
        CueTour tour = Tours.withLines(10);
        DUE.is("9: first", tour.addCue(0, 0, 60), 0);
        DUE.is("9: second", tour.addCue(0, 60, 0), 1);
        for (int channel = 0; channel < 10; channel++) {
            DUE.is("9: no changes", tour.changes(0, channel), NONE);
        }
        DUE.is("9: offset", tour.timeOf(1), 60);
        DUE.noSuch("9: line below", Tours::small, t -> t.addCue(-1, 0, 0));
        DUE.noSuch("9: line above", Tours::small, t -> t.addCue(3, 0, 0));
        DUE.noSuch("9: no line", Tours::empty, t -> t.addCue(0, 0, 0));
        DUE.outOfRange("9: offset below", Tours::small, t -> t.addCue(0, -1, 0));
        DUE.outOfRange("9: offset above", Tours::small, t -> t.addCue(0, 61, 0));
        DUE.outOfRange("9: fade below", Tours::small, t -> t.addCue(0, 0, -1));
        DUE.outOfRange("9: fade above", Tours::small, t -> t.addCue(0, 0, 61));
        DUE.notNow("9: twenty are there", Tours::withAllCues, t -> t.addCue(0, 0, 0));
        DUE.noSuch("9: line first", Tours::withAllCues, t -> t.addCue(2, 61, 0));
        DUE.outOfRange("9: range ahead of room", Tours::withAllCues, t -> t.addCue(0, 0, 61));
    }

    private static void promise10() {
        CueTour tour = Tours.withLines(10, 10);
        tour.addCue(0, 5, 10);
        tour.change(0, 3, 100);
        DUE.is("10: line before", tour.move(0, 1, 60, 0), 0);
        DUE.is("10: time", tour.timeOf(0), 70);
        DUE.is("10: fade", tour.levelAt(3, 70), 100);
        DUE.is("10: not yet", tour.levelAt(3, 69), 0);
        DUE.is("10: line then", tour.move(0, 1, 0, 60), 1);
        DUE.is("10: changes stay", tour.changes(0, 3), 100);
        DUE.is("10: other fade", tour.levelAt(3, 40), 50);
        tour.cut(1, true);
        DUE.is("10: off a cut line", tour.move(0, 0, 1, 0), 1);
        DUE.is("10: played again", tour.timeOf(0), 1);
        DUE.is("10: onto a cut line", tour.move(0, 1, 1, 0), 0);
        DUE.is("10: not played", tour.timeOf(0), NONE);
        DUE.noSuch("10: cue below", Tours::small, t -> t.move(-1, 0, 0, 0));
        DUE.noSuch("10: cue above", Tours::small, t -> t.move(2, 0, 0, 0));
        DUE.noSuch("10: line below", Tours::small, t -> t.move(0, -1, 0, 0));
        DUE.noSuch("10: line above", Tours::small, t -> t.move(0, 3, 0, 0));
        DUE.noSuch("10: cue ahead of offset", Tours::small, t -> t.move(2, 0, 61, 0));
        DUE.noSuch("10: line ahead of fade", Tours::small, t -> t.move(0, 3, 0, -1));
        DUE.outOfRange("10: offset below", Tours::small, t -> t.move(0, 1, -1, 0));
        DUE.outOfRange("10: offset above", Tours::small, t -> t.move(0, 1, 61, 0));
        DUE.outOfRange("10: fade below", Tours::small, t -> t.move(0, 1, 0, -1));
        DUE.outOfRange("10: fade above", Tours::small, t -> t.move(0, 1, 0, 61));
    }

    private static void promise11() {
        CueTour tour = Tours.withLines(10);
        tour.addCue(0, 0, 0);
        tour.addCue(0, 5, 0);
        DUE.is("11: at first", tour.change(0, 9, 0), NONE);
        DUE.is("11: to nothing", tour.change(0, 9, 100), 0);
        DUE.is("11: to all", tour.change(0, 9, NONE), 100);
        DUE.is("11: no more", tour.change(0, 9, 30), NONE);
        DUE.is("11: other channel", tour.change(0, 0, 30), NONE);
        DUE.is("11: other cue", tour.change(1, 9, 20), NONE);
        DUE.is("11: level", tour.levelAt(9, 4), 30);
        DUE.is("11: later level", tour.levelAt(9, 5), 20);
        tour.change(1, 9, NONE);
        DUE.is("11: tracked", tour.levelAt(9, 5), 30);
        tour.cut(0, true);
        DUE.is("11: own one, not the folded", tour.change(1, 9, 4), NONE);
        DUE.noSuch("11: cue below", Tours::small, t -> t.change(-1, 0, 0));
        DUE.noSuch("11: cue above", Tours::small, t -> t.change(2, 0, 0));
        DUE.noSuch("11: channel below", Tours::small, t -> t.change(0, -1, 0));
        DUE.noSuch("11: channel above", Tours::small, t -> t.change(0, 10, 0));
        DUE.noSuch("11: cue ahead of level", Tours::small, t -> t.change(2, 0, 101));
        DUE.noSuch("11: channel ahead of level", Tours::small, t -> t.change(0, 10, -2));
        DUE.outOfRange("11: level below", Tours::small, t -> t.change(0, 0, -2));
        DUE.outOfRange("11: level above", Tours::small, t -> t.change(0, 0, 101));
    }

    private static void promise12() {
        CueTour tour = Tours.small();
        DUE.is("12: cues", tour.cues(), 2);
        tour.cut(0, true);
        DUE.is("12: with those of cut lines", tour.cues(), 2);
        DUE.is("12: all", Tours.withAllCues().cues(), 20);
    }

    private static void order(String what, CueTour tour, int... due) {
        for (int place = 0; place < due.length; place++) {
            DUE.is(what + ", place " + place, tour.cueAt(place), due[place]);
        }
    }

    private static void promise13() {
        CueTour tour = Tours.withLines(1, 1, 1);
        tour.addCue(2, 0, 0);
        tour.addCue(0, 60, 0);
        tour.addCue(1, 5, 0);
        tour.addCue(1, 5, 9);
        tour.addCue(1, 4, 0);
        order("13: lines, offsets, numbers", tour, 1, 4, 2, 3, 0);
        tour.move(3, 1, 4, 0);
        order("13: the same offset by number", tour, 1, 3, 4, 2, 0);
        tour.cut(1, true);
        order("13: a cut changes no order", tour, 1, 3, 4, 2, 0);
        tour.move(0, 0, 60, 0);
        order("13: moved ahead", tour, 0, 1, 3, 4, 2);
        tour.move(1, 2, 0, 0);
        order("13: moved back", tour, 0, 3, 4, 2, 1);
        tour.addCue(0, 60, 0);
        order("13: added among others", tour, 0, 5, 3, 4, 2, 1);
        DUE.noSuch("13: place below", Tours::small, t -> t.cueAt(-1));
        DUE.noSuch("13: place above", Tours::small, t -> t.cueAt(2));
        DUE.noSuch("13: none there", Tours::empty, t -> t.cueAt(0));
    }

    private static void promise14() {
        CueTour tour = Tours.withLines(5, 7, 11);
        tour.addCue(2, 3, 0);
        tour.addCue(0, 60, 0);
        tour.addCue(1, 0, 0);
        DUE.is("14: start and offset", tour.timeOf(0), 15);
        DUE.is("14: over the line's end", tour.timeOf(1), 60);
        tour.cut(1, true);
        DUE.is("14: not played", tour.timeOf(2), NONE);
        DUE.is("14: earlier by the cut", tour.timeOf(0), 8);
        tour.cut(1, false);
        DUE.is("14: played again", tour.timeOf(2), 5);
        DUE.is("14: later again", tour.timeOf(0), 15);
        DUE.noSuch("14: cue below", Tours::small, t -> t.timeOf(-1));
        DUE.noSuch("14: cue above", Tours::small, t -> t.timeOf(2));
    }

    private static void promise15() {
        CueTour tour = Tours.withLines(5, 7, 11);
        tour.addCue(2, 0, 0);
        tour.addCue(0, 60, 0);
        tour.addCue(1, 0, 0);
        tour.addCue(2, 1, 0);
        DUE.is("15: itself", tour.foldedInto(1), 1);
        tour.cut(0, true);
        DUE.is("15: the next in order", tour.foldedInto(1), 2);
        tour.cut(1, true);
        DUE.is("15: the next that is played", tour.foldedInto(1), 0);
        DUE.is("15: also", tour.foldedInto(2), 0);
        DUE.is("15: itself still", tour.foldedInto(3), 3);
        tour.move(0, 2, 2, 0);
        DUE.is("15: another comes first", tour.foldedInto(2), 3);
        tour.cut(2, true);
        DUE.is("15: lost", tour.foldedInto(1), NONE);
        DUE.is("15: the last one lost", tour.foldedInto(0), NONE);
        tour.cut(1, false);
        DUE.is("15: ahead of the one played", tour.foldedInto(1), 2);
        DUE.is("15: behind it", tour.foldedInto(3), NONE);
        DUE.noSuch("15: cue below", Tours::small, t -> t.foldedInto(-1));
        DUE.noSuch("15: cue above", Tours::small, t -> t.foldedInto(2));
    }

    private static void promise16() {
        CueTour tour = Tours.withLines(5, 7, 11);
        tour.addCue(2, 0, 0);
        tour.addCue(0, 0, 0);
        tour.addCue(1, 9, 0);
        tour.addCue(1, 3, 0);
        tour.change(0, 0, 10);
        tour.change(1, 0, 20);
        tour.change(1, 1, 21);
        tour.change(1, 2, 22);
        tour.change(2, 1, 0);
        tour.change(3, 1, 31);
        tour.change(3, 3, 33);
        DUE.is("16: own", tour.changes(1, 2), 22);
        DUE.is("16: none", tour.changes(0, 2), NONE);
        tour.cut(0, true);
        DUE.is("16: not played", tour.changes(1, 0), NONE);
        DUE.is("16: folded in", tour.changes(3, 2), 22);
        DUE.is("16: own ahead of folded", tour.changes(3, 1), 31);
        DUE.is("16: not into the one behind", tour.changes(2, 2), NONE);
        tour.cut(1, true);
        DUE.is("16: own stays", tour.changes(0, 0), 10);
        DUE.is("16: the last of the folded", tour.changes(0, 1), 0);
        DUE.is("16: the one that has it", tour.changes(0, 2), 22);
        DUE.is("16: one between", tour.changes(0, 3), 33);
        DUE.is("16: by none", tour.changes(0, 4), NONE);
        tour.change(2, 1, NONE);
        DUE.is("16: the last one that has it", tour.changes(0, 1), 31);
        tour.cut(1, false);
        DUE.is("16: no longer folded", tour.changes(0, 3), NONE);
        DUE.noSuch("16: cue below", Tours::small, t -> t.changes(-1, 0));
        DUE.noSuch("16: cue above", Tours::small, t -> t.changes(2, 0));
        DUE.noSuch("16: channel below", Tours::small, t -> t.changes(0, -1));
        DUE.noSuch("16: channel above", Tours::small, t -> t.changes(0, 10));
    }

    private static void level(String what, CueTour tour, int channel, int time, int due) {
        DUE.is("17: " + what, tour.levelAt(channel, time), due);
        DUE.is("18: " + what, tour.levelBySeconds(channel, time), due);
    }

    private static void promises17And18() {
        fadesRoundTowardZero();
        fadesTakePlaceOfFades();
        cuesOfOneTime();
        laterInOrderEarlierInTime();
        allCues();
        foldedFades();
        behindTheScript();
    }

    private static void fadesRoundTowardZero() {
        CueTour tour = Tours.withLines(30, 30);
        tour.addCue(0, 1, 3);
        tour.change(0, 4, 100);
        tour.addCue(0, 10, 7);
        tour.change(1, 4, 50);
        level("ahead of all", tour, 4, 0, 0);
        level("begins", tour, 4, 1, 0);
        level("rises, rounded down", tour, 4, 2, 33);
        level("rises on", tour, 4, 3, 66);
        level("is there", tour, 4, 4, 100);
        level("stays", tour, 4, 9, 100);
        level("begins to fall", tour, 4, 10, 100);
        level("falls, difference rounded toward 0", tour, 4, 11, 93);
        level("falls on", tour, 4, 16, 58);
        level("has fallen", tour, 4, 17, 50);
        level("other channel", tour, 5, 17, 0);
    }

    private static void fadesTakePlaceOfFades() {
        CueTour tour = Tours.withLines(30);
        tour.addCue(0, 0, 10);
        tour.change(0, 0, 100);
        tour.change(0, 1, 100);
        tour.addCue(0, 5, 3);
        tour.change(1, 0, 0);
        level("half of it", tour, 0, 5, 50);
        level("another fade", tour, 0, 6, 34);
        level("ends sooner", tour, 0, 8, 0);
        level("the first one is gone", tour, 0, 10, 0);
        level("not on another channel", tour, 1, 7, 70);
        tour.change(1, 0, 50);
        level("holds the level it has", tour, 0, 9, 50);
        tour.move(1, 0, 10, 3);
        level("at the end of a fade", tour, 0, 10, 100);
        level("from its new level", tour, 0, 11, 84);
        tour.move(0, 0, 4, 10);
        level("a fade that began later", tour, 0, 9, 50);
        level("cut short", tour, 0, 10, 60);
        level("to another level", tour, 0, 12, 54);
    }

    private static void cuesOfOneTime() {
        CueTour tour = Tours.withLines(5, 5);
        tour.addCue(1, 0, 0);
        tour.addCue(0, 5, 0);
        tour.addCue(0, 5, 10);
        tour.change(0, 0, 10);
        tour.change(1, 0, 90);
        level("the last in order holds", tour, 0, 5, 10);
        tour.change(2, 0, 0);
        tour.change(0, 0, NONE);
        level("a fade from the level at once", tour, 0, 5, 90);
        level("and on", tour, 0, 6, 81);
        tour.change(0, 0, 40);
        level("at once behind a fade", tour, 0, 5, 40);
        level("stays then", tour, 0, 15, 40);
    }

    private static void laterInOrderEarlierInTime() {
        CueTour tour = Tours.withLines(5, 5);
        tour.addCue(0, 20, 0);
        tour.addCue(1, 0, 10);
        tour.change(0, 0, 77);
        tour.change(1, 0, 100);
        level("the later line's cue first", tour, 0, 10, 50);
        level("its fade ends", tour, 0, 19, 100);
        level("the first line's cue last", tour, 0, 20, 77);
        level("it stays", tour, 0, 2000, 77);
        tour.addCue(0, 30, 0);
        tour.change(2, 0, 66);
        tour.move(1, 1, 10, 0);
        level("behind the fifteenth second", tour, 0, 15, 100);
        level("two cues of an earlier line behind it", tour, 0, 20, 77);
        level("the last of the three", tour, 0, 30, 66);
    }

    /** Cues of two lines, so that their times lie between one another. */
    private static void allCues() {
        CueTour tour = Tours.withAllCues();
        for (int cue = 0; cue < 20; cue++) {
            tour.change(cue, cue % 3, cue + 1);
        }
        level("ahead of the second line's", tour, 0, 10, 7);
        level("the second line's is the later one", tour, 0, 13, 4);
        level("both lines have a cue then", tour, 0, 19, 10);
        level("the last time", tour, 1, 2000, 20);
    }

    private static void foldedFades() {
        CueTour tour = Tours.withLines(5, 5);
        tour.addCue(0, 0, 0);
        tour.addCue(1, 2, 4);
        tour.change(0, 0, 80);
        tour.change(1, 1, 60);
        tour.cut(0, true);
        level("not at its own time", tour, 0, 1, 0);
        level("with the fade of the other", tour, 0, 4, 40);
        level("own change", tour, 1, 5, 45);
        tour.cut(1, true);
        level("all lost", tour, 0, 100, 0);
    }

    private static void behindTheScript() {
        CueTour tour = Tours.withAllLines();
        tour.addCue(29, 60, 60);
        tour.change(0, 9, 99);
        level("late cue", tour, 9, 496, 1);
        level("late fade", tour, 9, 554, 97);
        level("its end", tour, 9, 555, 99);
        level("the last time", tour, 9, 2000, 99);
    }

    private static void refusalsOfLevels() {
        DUE.noSuch("17: channel below", Tours::small, t -> t.levelAt(-1, 0));
        DUE.noSuch("17: channel above", Tours::small, t -> t.levelAt(10, 0));
        DUE.noSuch("17: channel first", Tours::small, t -> t.levelAt(10, 2001));
        DUE.outOfRange("17: time below", Tours::small, t -> t.levelAt(0, -1));
        DUE.outOfRange("17: time above", Tours::small, t -> t.levelAt(0, 2001));
        DUE.noSuch("18: channel below", Tours::small, t -> t.levelBySeconds(-1, 0));
        DUE.noSuch("18: channel above", Tours::small, t -> t.levelBySeconds(10, 0));
        DUE.noSuch("18: channel first", Tours::small, t -> t.levelBySeconds(-1, -1));
        DUE.outOfRange("18: time below", Tours::small, t -> t.levelBySeconds(0, -1));
        DUE.outOfRange("18: time above", Tours::small, t -> t.levelBySeconds(0, 2001));
    }
}
