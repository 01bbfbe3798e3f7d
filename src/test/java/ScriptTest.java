/** Promises 1 to 7: a new object, and the script. */
public final class ScriptTest {
    private static final Due DUE = new Due("ScriptTest");
    private static final int NONE = CueTour.NONE;

    private ScriptTest() {
    }

    public static void main(String[] args) {
        promise1();
        promise2();
        promise3();
        promise4();
        promise5();
        promise6();
        promise7();
        DUE.end();
    }

    private static void promise1() {
        CueTour tour = new CueTour();
        DUE.is("1: lines", tour.lines(), 0);
        DUE.is("1: length", tour.length(), 0);
        DUE.is("1: cues", tour.cues(), 0);
        DUE.is("1: lamps", tour.lamps(), 0);
        DUE.is("1: logs", tour.logs(), 0);
        DUE.is("1: best stage", tour.bestStage(), 0);
        DUE.is("1: best to borrow", tour.bestToBorrow(3, 3), NONE);
        for (int channel = 0; channel < 10; channel++) {
            DUE.is("1: level of " + channel, tour.levelAt(channel, 0), 0);
            DUE.is("1: late level of " + channel, tour.levelBySeconds(channel, 2000), 0);
            DUE.is("1: laid " + channel, tour.laidOn(2, channel), 0);
        }
        CueTour other = new CueTour();
        tour.addLine(3);
        DUE.is("1: objects are apart", other.lines(), 0);
        DUE.is("1: NONE", CueTour.NONE, -1);
    }

    private static void promise2() {
        CueTour tour = new CueTour();
        for (int line = 0; line < 30; line++) {
            DUE.is("2: number", tour.addLine(line + 1), line);
        }
        DUE.is("2: seconds", tour.length(), 465);
        DUE.is("2: last start", tour.startOf(29), 435);
        DUE.outOfRange("2: no seconds", Tours::small, t -> t.addLine(0));
        DUE.outOfRange("2: too many seconds", Tours::small, t -> t.addLine(31));
        DUE.outOfRange("2: least int", Tours::small, t -> t.addLine(Integer.MIN_VALUE));
        DUE.outOfRange("2: greatest int", Tours::small, t -> t.addLine(Integer.MAX_VALUE));
        DUE.notNow("2: thirty are there", Tours::withAllLines, t -> t.addLine(1));
        DUE.outOfRange("2: range ahead of room", Tours::withAllLines, t -> t.addLine(31));
    }

    private static void promise3() {
        CueTour tour = Tours.withLines(1, 30);
        DUE.is("3: at first", tour.need(1, 3, 100), 0);
        DUE.is("3: then", tour.need(1, 3, 0), 100);
        DUE.is("3: other area", tour.need(1, 2, 7), 0);
        DUE.is("3: other line", tour.need(0, 2, 8), 0);
        DUE.is("3: kept", tour.need(1, 2, 7), 7);
        tour.cut(1, true);
        DUE.is("3: of a cut line", tour.need(1, 2, 9), 7);
        tour.cut(1, false);
        DUE.is("3: taken in again", tour.need(1, 2, 9), 9);
        DUE.noSuch("3: line below", Tours::small, t -> t.need(-1, 0, 0));
        DUE.noSuch("3: line above", Tours::small, t -> t.need(3, 0, 0));
        DUE.noSuch("3: area below", Tours::small, t -> t.need(0, -1, 0));
        DUE.noSuch("3: area above", Tours::small, t -> t.need(0, 4, 0));
        DUE.noSuch("3: no line", Tours::empty, t -> t.need(0, 0, 0));
        DUE.noSuch("3: line ahead of level", Tours::small, t -> t.need(3, 0, 101));
        DUE.noSuch("3: area ahead of level", Tours::small, t -> t.need(0, 4, -1));
        DUE.outOfRange("3: level below", Tours::small, t -> t.need(0, 0, -1));
        DUE.outOfRange("3: level above", Tours::small, t -> t.need(0, 0, 101));
    }

    private static void promise4() {
        CueTour tour = Tours.withLines(5, 7, 11);
        DUE.is("4: cut", tour.cut(1, true), 16);
        DUE.is("4: cut again", tour.cut(1, true), 16);
        DUE.is("4: cut another", tour.cut(0, true), 11);
        DUE.is("4: cut all", tour.cut(2, true), 0);
        DUE.is("4: taken in", tour.cut(1, false), 7);
        DUE.is("4: taken in again", tour.cut(1, false), 7);
        DUE.noSuch("4: line below", Tours::small, t -> t.cut(-1, true));
        DUE.noSuch("4: line above", Tours::small, t -> t.cut(3, true));
        DUE.noSuch("4: far above", Tours::small, t -> t.cut(Integer.MAX_VALUE, false));
        DUE.noSuch("4: no line", Tours::empty, t -> t.cut(0, true));
    }

    private static void promise5() {
        CueTour tour = Tours.withLines(5, 7, 11);
        DUE.is("5: lines", tour.lines(), 3);
        tour.cut(0, true);
        tour.cut(2, true);
        DUE.is("5: with cut ones", tour.lines(), 3);
        DUE.is("5: all", Tours.withAllLines().lines(), 30);
    }

    private static void promise6() {
        CueTour tour = Tours.withLines(5, 7, 11);
        DUE.is("6: first", tour.startOf(0), 0);
        DUE.is("6: third", tour.startOf(2), 12);
        tour.cut(1, true);
        DUE.is("6: cut", tour.startOf(1), NONE);
        DUE.is("6: behind a cut one", tour.startOf(2), 5);
        tour.cut(0, true);
        DUE.is("6: behind cut ones", tour.startOf(2), 0);
        tour.cut(1, false);
        DUE.is("6: taken in again", tour.startOf(1), 0);
        DUE.is("6: behind it", tour.startOf(2), 7);
        DUE.noSuch("6: line below", Tours::small, t -> t.startOf(-1));
        DUE.noSuch("6: line above", Tours::small, t -> t.startOf(3));
        DUE.noSuch("6: no line", Tours::empty, t -> t.startOf(0));
    }

    private static void promise7() {
        CueTour tour = Tours.withLines(30, 1);
        DUE.is("7: length", tour.length(), 31);
        tour.addCue(1, 60, 60);
        DUE.is("7: cues count for nothing", tour.length(), 31);
        tour.cut(0, true);
        DUE.is("7: without a cut one", tour.length(), 1);
        tour.cut(1, true);
        DUE.is("7: all cut", tour.length(), 0);
    }
}
