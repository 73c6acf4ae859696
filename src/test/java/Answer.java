import java.util.function.BooleanSupplier;
import java.util.function.IntSupplier;

/** The answer of a call as a text: its number, 1 or 0 for true or false, or the name of what it throws. */
final class Answer {
    static final String OUT = "IndexOutOfBoundsException";
    static final String ARGUMENT = "IllegalArgumentException";
    static final String STATE = "IllegalStateException";
    static final String FULL = "UnsupportedOperationException";

    private Answer() {
    }

    static String of(int number) {
        return String.valueOf(number);
    }

    static String of(boolean holds) {
        return of(holds ? 1 : 0);
    }

    static String to(IntSupplier call) {
        try {
            return of(call.getAsInt());
        } catch (RuntimeException e) {
            return e.getClass().getSimpleName();
        }
    }

    static String to(BooleanSupplier call) {
        return to(() -> call.getAsBoolean() ? 1 : 0);
    }
}
