import java.util.List;
import java.util.Set;
import java.util.TreeSet;
import java.util.function.Consumer;
import java.util.function.IntFunction;
import java.util.function.Supplier;

/** Counts the answers that are not the due ones, and prints them. */
final class Due {
    private static final Consumer<CueTour> NO_CALL = tour -> { };
    private static final int LEAST = Integer.MIN_VALUE;
    private static final int GREATEST = Integer.MAX_VALUE;

    /** A call with one argument that is looked at. */
    interface IntCall {
        int on(CueTour tour, int value);
    }

    private final String test;
    private final Set<String> told = new TreeSet<>();
    private String sentence = "";
    private int askedBefore = 0;
    private int asked = 0;
    private int wrong = 0;

    Due(String test) {
        this.test = test;
    }

    /** From here on the answers are due by this sentence of "Terms". */
    void term(String words) {
        begin("Terms: " + words);
    }

    /** From here on the answers are due by this sentence of a promise. */
    void promise(int number, String words) {
        begin("Promise " + number + ": " + words);
    }

    private void begin(String words) {
        close();
        sentence = words + " -- ";
        if (!told.add(words)) {
            wrong++;
            System.out.println(test + ": " + words + " has two tests");
        }
    }

    /** Ends the test of a sentence, which has to have asked something. */
    void close() {
        if (!sentence.isEmpty() && asked == askedBefore) {
            wrong++;
            System.out.println(test + ": " + sentence + "nothing is asked");
        }
        askedBefore = asked;
        sentence = "";
    }

    /** The sentences that have had a test. */
    Set<String> told() {
        return told;
    }

    void is(String what, Object got, Object due) {
        asked++;
        if (!got.equals(due)) {
            wrong++;
            System.out.println(test + ": " + sentence + what + " answered " + got + ", due is " + due);
        }
    }

    void noSuch(String what, Supplier<CueTour> maker, Consumer<CueTour> call) {
        refuses(what, IndexOutOfBoundsException.class, maker, call);
    }

    void outOfRange(String what, Supplier<CueTour> maker, Consumer<CueTour> call) {
        refuses(what, IllegalArgumentException.class, maker, call);
    }

    void notNow(String what, Supplier<CueTour> maker, Consumer<CueTour> call) {
        refuses(what, IllegalStateException.class, maker, call);
    }

    /** The call has to throw nothing. */
    void takes(String what, Supplier<CueTour> maker, Consumer<CueTour> call) {
        is(what, thrown(maker.get(), call), "nothing");
    }

    /** Just the values from the least to the most are taken. */
    void range(int least, int most, Supplier<CueTour> maker, IntCall call) {
        takes("the least", maker, tour -> call.on(tour, least));
        takes("the most", maker, tour -> call.on(tour, most));
        refusesAll(IllegalArgumentException.class, maker, call, LEAST, least - 1, most + 1, GREATEST);
    }

    /** Just the numbers from 0 to the last are taken. */
    void numbers(int last, Supplier<CueTour> maker, IntCall call) {
        takes("the first", maker, tour -> call.on(tour, 0));
        takes("the last", maker, tour -> call.on(tour, last));
        refusesAll(IndexOutOfBoundsException.class, maker, call, LEAST, -1, last + 1, GREATEST);
    }

    /** The same in tours with none, one, two and all of what is numbered. */
    void numbersOf(int most, IntFunction<CueTour> maker, IntCall call) {
        refusesAll(IndexOutOfBoundsException.class, () -> maker.apply(0), call, LEAST, -1, 0, 1, GREATEST);
        for (int count : new int[] {1, 2, most}) {
            numbers(count - 1, () -> maker.apply(count), call);
        }
    }

    private void refusesAll(Class<?> due, Supplier<CueTour> maker, IntCall call, int... values) {
        List<String> state = Snapshot.of(maker, NO_CALL);
        for (int value : values) {
            refuses("with " + value, due, maker, tour -> call.on(tour, value), state);
        }
    }

    private void refuses(String what, Class<?> due, Supplier<CueTour> maker, Consumer<CueTour> call) {
        refuses(what, due, maker, call, Snapshot.of(maker, NO_CALL));
    }

    /** The call has to throw just this class, and to leave all as it is. */
    private void refuses(String what, Class<?> due, Supplier<CueTour> maker, Consumer<CueTour> call,
            List<String> state) {
        is(what + ", thrown", thrown(maker.get(), call), due.getSimpleName());
        is(what + ", state behind it", Snapshot.of(maker, tour -> thrown(tour, call)), state);
    }

    static String thrown(CueTour tour, Consumer<CueTour> call) {
        try {
            call.accept(tour);
            return "nothing";
        } catch (RuntimeException e) {
            return e.getClass().getSimpleName();
        }
    }

    void end() {
        close();
        System.out.println(test + ": " + asked + " answers, " + wrong + " not as due");
        if (wrong != 0 || asked == 0) {
            System.exit(1);
        }
    }
}
