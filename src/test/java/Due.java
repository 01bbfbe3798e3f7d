import java.util.function.Consumer;
import java.util.function.Supplier;

/** Counts the answers that are not the due ones, and prints them. */
final class Due {
    private final String test;
    private int asked = 0;
    private int wrong = 0;

    Due(String test) {
        this.test = test;
    }

    void is(String what, Object got, Object due) {
        asked++;
        if (!got.equals(due)) {
            wrong++;
            System.out.println(test + ": " + what + " answered " + got + ", due is " + due);
        }
    }

    void noSuch(String what, Supplier<CueTour> maker, Consumer<CueTour> call) {
        refuses(what, IndexOutOfBoundsException.class, maker, call);
    }

    void outOfRange(String what, Supplier<CueTour> maker, Consumer<CueTour> call) {
        refuses(what, IllegalArgumentException.class, maker, call);
    }

    void notNow(String what, Supplier<CueTour> maker, Consumer<CueTour> call) {
        refuses(what, IllegalStateException.class, maker, call);
    }

    /** The call has to throw just this class, and to leave all as it is. */
    private void refuses(String what, Class<?> due, Supplier<CueTour> maker, Consumer<CueTour> call) {
        CueTour tour = maker.get();
        Object thrown = "nothing";
        try {
            call.accept(tour);
        } catch (RuntimeException e) {
            thrown = e.getClass();
        }
        is(what + ", thrown", thrown, due);
        is(what + ", state behind it", Snapshot.of(tour), Snapshot.of(maker.get()));
    }

    void end() {
        System.out.println(test + ": " + asked + " answers, " + wrong + " not as due");
        if (wrong != 0 || asked == 0) {
            System.exit(1);
        }
    }
}
