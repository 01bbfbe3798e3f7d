import java.util.ArrayList;
import java.util.Arrays;
import java.util.List;
import java.util.function.BiPredicate;
import java.util.function.Consumer;
import java.util.function.Supplier;
import java.util.stream.IntStream;

/**
 * Every call of the face with all the least, the greatest and the first wrong values of its
 * arguments together, in tours from empty to full: which exception is thrown, if one is.
 */
final class ThrowEdges {
    private static final String NO_SUCH = "IndexOutOfBoundsException";
    private static final String OUT_OF_RANGE = "IllegalArgumentException";
    private static final String NOT_NOW = "IllegalStateException";
    private static final int LEAST = Integer.MIN_VALUE;
    private static final int GREATEST = Integer.MAX_VALUE;

    private interface Called {
        int on(CueTour tour, int[] with);
    }

    /** What an argument may be; of numbers the most is told by the tour. */
    private enum Kind {
        LINE, CUE, LAMP, LOG, AREA, STAGE, CHANNEL, SECONDS, LEVEL, CHANGE, WAIT, COLOUR, POWER, TIME;

        boolean isNumber() {
            return ordinal() <= CHANNEL.ordinal();
        }

        int least() {
            return this == SECONDS || this == POWER ? 1 : this == CHANGE ? CueTour.NONE : 0;
        }

        int most(Counts counts) {
            return switch (this) {
                case LINE -> counts.lines - 1;
                case CUE -> counts.cues - 1;
                case LAMP -> counts.lamps - 1;
                case LOG -> counts.logs - 1;
                case AREA, STAGE -> 3;
                case CHANNEL -> 9;
                case SECONDS -> 30;
                case LEVEL, CHANGE, POWER -> 100;
                case WAIT -> 60;
                case COLOUR -> 2;
                case TIME -> 2000;
            };
        }

        boolean allows(Counts counts, int value) {
            return value >= least() && value <= most(counts);
        }

        /** The least and the most that are allowed, and what is wrong beside them and far off. */
        int[] edges(Counts counts) {
            int most = most(counts);
            return IntStream.of(LEAST, least() - 1, least(), most, most + 1, GREATEST).distinct().toArray();
        }
    }

    /** How many there are of what is numbered. */
    private record Counts(int lines, int cues, int lamps, int logs) {
        static Counts of(CueTour tour) {
            return new Counts(tour.lines(), tour.cues(), tour.lamps(), tour.logs());
        }
    }

    private record Call(String name, Called called, BiPredicate<CueTour, int[]> isRefused, Kind... kinds) {
    }

    private final Due due;
    private final List<Call> calls = new ArrayList<>();

    ThrowEdges(Due due) {
        this.due = due;
    }

    void run() {
        listScript();
        listLamps();
        due.term("An IndexOutOfBoundsException is thrown if there is no such line, area, channel, cue, stage, lamp, log"
                + " or place, an IllegalArgumentException if another argument is out of its range, an"
                + " IllegalStateException as told.");
        forAllTours(0, 1);
        due.term("If several exceptions of a throws clause apply, the one that is listed first is thrown.");
        forAllTours(2, 4);
        due.term("A call that throws an exception changes nothing.");
        nothingChanges(Tours::empty);
        nothingChanges(ThrowEdges::oneOfEach);
        nothingChanges(Tours::full);
        nothingChanges(Tours::fullAllCut);
    }

    private void list(String name, Called called, Kind... kinds) {
        list(name, called, (t, v) -> false, kinds);
    }

    private void list(String name, Called called, BiPredicate<CueTour, int[]> isRefused, Kind... kinds) {
        calls.add(new Call(name, called, isRefused, kinds));
    }

    private void listScript() {
        list("addLine", (t, v) -> t.addLine(v[0]), (t, v) -> t.lines() == 30, Kind.SECONDS);
        list("need", (t, v) -> t.need(v[0], v[1], v[2]), Kind.LINE, Kind.AREA, Kind.LEVEL);
        list("cut", (t, v) -> t.cut(v[0], true), Kind.LINE);
        list("lines", (t, v) -> t.lines());
        list("startOf", (t, v) -> t.startOf(v[0]), Kind.LINE);
        list("length", (t, v) -> t.length());
        list("setChannel", (t, v) -> t.setChannel(v[0], v[1], v[2]), Kind.CHANNEL, Kind.AREA, Kind.COLOUR);
        list("addCue", (t, v) -> t.addCue(v[0], v[1], v[2]), (t, v) -> t.cues() == 20,
                Kind.LINE, Kind.WAIT, Kind.WAIT);
        list("move", (t, v) -> t.move(v[0], v[1], v[2], v[3]), Kind.CUE, Kind.LINE, Kind.WAIT, Kind.WAIT);
        list("change", (t, v) -> t.change(v[0], v[1], v[2]), Kind.CUE, Kind.CHANNEL, Kind.CHANGE);
        list("cues", (t, v) -> t.cues());
        list("cueAt", (t, v) -> t.cueAt(v[0]), Kind.CUE);
        list("timeOf", (t, v) -> t.timeOf(v[0]), Kind.CUE);
        list("foldedInto", (t, v) -> t.foldedInto(v[0]), Kind.CUE);
        list("changes", (t, v) -> t.changes(v[0], v[1]), Kind.CUE, Kind.CHANNEL);
        list("levelAt", (t, v) -> t.levelAt(v[0], v[1]), Kind.CHANNEL, Kind.TIME);
        list("levelBySeconds", (t, v) -> t.levelBySeconds(v[0], v[1]), Kind.CHANNEL, Kind.TIME);
    }

    private void listLamps() {
        list("addLamp", (t, v) -> t.addLamp(v[0], v[1], v[2], v[3]), (t, v) -> t.lamps() == 20,
                Kind.STAGE, Kind.AREA, Kind.COLOUR, Kind.POWER);
        list("borrow", (t, v) -> t.borrow(v[0], v[1], v[2]), (t, v) -> isAway(t, v[0]) || v[1] == v[0] % 4,
                Kind.LAMP, Kind.STAGE, Kind.AREA);
        list("bringBack", (t, v) -> t.bringBack(v[0]), (t, v) -> !isAway(t, v[0]), Kind.LAMP);
        list("replace", (t, v) -> t.replace(v[0]), Kind.LAMP);
        list("lamps", (t, v) -> t.lamps());
        list("whereIs", (t, v) -> t.whereIs(v[0]), Kind.LAMP);
        list("wear", (t, v) -> t.wear(v[0]), Kind.LAMP);
        list("laidOn", (t, v) -> t.laidOn(v[0], v[1]), Kind.STAGE, Kind.CHANNEL);
        list("lampLevel", (t, v) -> t.lampLevel(v[0], v[1]), Kind.LAMP, Kind.TIME);
        list("light", (t, v) -> t.light(v[0], v[1], v[2]), Kind.STAGE, Kind.AREA, Kind.TIME);
        list("shortOf", (t, v) -> t.shortOf(v[0], v[1]), Kind.STAGE, Kind.LINE);
        list("bestStage", (t, v) -> t.bestStage());
        list("bestToBorrow", (t, v) -> t.bestToBorrow(v[0], v[1]), Kind.STAGE, Kind.AREA);
        list("perform", (t, v) -> t.perform(v[0]), (t, v) -> t.length() == 0 || t.logs() == 20, Kind.STAGE);
        list("logs", (t, v) -> t.logs());
        list("stageOf", (t, v) -> t.stageOf(v[0]), Kind.LOG);
        list("wasShortOf", (t, v) -> t.wasShortOf(v[0], v[1]), Kind.LOG, Kind.LINE);
        list("timesShort", (t, v) -> t.timesShort(v[0]), Kind.LINE);
    }

    /** In all the tours of this test the home of a lamp is its number modulo 4. */
    private static boolean isAway(CueTour tour, int lamp) {
        return tour.whereIs(lamp) != lamp % 4;
    }

    private static CueTour oneOfEach() {
        CueTour tour = Tours.lamps(1);
        tour.perform(0);
        return tour;
    }

    private static CueTour twoOfEach() {
        CueTour tour = Tours.borrowedLamps(2);
        tour.addLine(20);
        tour.addCue(1, 5, 5);
        tour.perform(3);
        tour.perform(1);
        return tour;
    }

    private void forAllTours(int leastWrong, int mostWrong) {
        forTour(Tours::empty, leastWrong, mostWrong);
        forTour(ThrowEdges::oneOfEach, leastWrong, mostWrong);
        forTour(ThrowEdges::twoOfEach, leastWrong, mostWrong);
        forTour(Tours::small, leastWrong, mostWrong);
        forTour(Tours::full, leastWrong, mostWrong);
        forTour(Tours::fullAllCut, leastWrong, mostWrong);
    }

    private void forTour(Supplier<CueTour> maker, int leastWrong, int mostWrong) {
        Counts counts = Counts.of(maker.get());
        for (Call call : calls) {
            CueTour tour = maker.get();
            int asked = 0;
            for (int[] with : combined(call, counts)) {
                int wrong = wrongOnes(call, counts, with);
                if (wrong < leastWrong || wrong > mostWrong) {
                    continue;
                }
                String thrown = thrown(call, tour, with);
                due.is(call.name + Arrays.toString(with), thrown, dueOf(call, counts, maker, with));
                asked++;
                // What throws changes nothing, so that the same tour is good for some calls more.
                if (asked % 200 == 0 || thrown.equals("nothing")) {
                    tour = maker.get();
                }
            }
        }
    }

    private static int wrongOnes(Call call, Counts counts, int[] with) {
        int wrong = 0;
        for (int i = 0; i < with.length; i++) {
            wrong += call.kinds[i].allows(counts, with[i]) ? 0 : 1;
        }
        return wrong;
    }

    private static String thrown(Call call, CueTour tour, int[] with) {
        return Due.thrown(tour, t -> call.called.on(t, with));
    }

    private static String dueOf(Call call, Counts counts, Supplier<CueTour> maker, int[] with) {
        for (boolean ofNumbers : new boolean[] {true, false}) {
            for (int i = 0; i < with.length; i++) {
                if (call.kinds[i].isNumber() == ofNumbers && !call.kinds[i].allows(counts, with[i])) {
                    return ofNumbers ? NO_SUCH : OUT_OF_RANGE;
                }
            }
        }
        return call.isRefused.test(maker.get(), with) ? NOT_NOW : "nothing";
    }

    /** All edge values of each argument with all of the others. */
    private static List<int[]> combined(Call call, Counts counts) {
        List<int[]> found = List.of(new int[call.kinds.length]);
        for (int i = 0; i < call.kinds.length; i++) {
            List<int[]> longer = new ArrayList<>();
            for (int[] with : found) {
                for (int value : call.kinds[i].edges(counts)) {
                    int[] more = with.clone();
                    more[i] = value;
                    longer.add(more);
                }
            }
            found = longer;
        }
        return found;
    }

    /** Each call that throws, with some of the wrong arguments, on one object behind one another. */
    private void nothingChanges(Supplier<CueTour> maker) {
        Counts counts = Counts.of(maker.get());
        List<String> state = Snapshot.of(maker, tour -> { });
        for (Call call : calls) {
            List<int[]> refused = new ArrayList<>();
            for (int[] with : combined(call, counts)) {
                if (!dueOf(call, counts, maker, with).equals("nothing")) {
                    refused.add(with);
                }
            }
            // Not all of them: no object may take more than 512 calls.
            int step = 1 + refused.size() / 8;
            Consumer<CueTour> some = tour -> {
                for (int i = 0; i < refused.size(); i += step) {
                    thrown(call, tour, refused.get(i));
                }
            };
            due.is("state behind " + call.name, Snapshot.of(maker, some), state);
        }
    }
}
