import java.util.NoSuchElementException;

/** What the tests say of answers: every one that is not due is printed, and end() tells the outcome. */
final class Due {
    static final Class<?> ARGUMENT = IllegalArgumentException.class;
    static final Class<?> INDEX = IndexOutOfBoundsException.class;
    static final Class<?> STATE = IllegalStateException.class;
    static final Class<?> ELEMENT = NoSuchElementException.class;

    private int looked = 0;
    private int wrong = 0;

    void same(String call, long got, long due) {
        looked++;
        if (got != due) {
            tell(call + " answered " + got + ", due is " + due);
        }
    }

    void same(String call, double got, double due) {
        looked++;
        if (Double.compare(got, due) != 0) {
            tell(call + " answered " + got + ", due is " + due);
        }
    }

    void near(String call, double got, double due, double apart) {
        looked++;
        if (!(Math.abs(got - due) <= apart)) {
            tell(call + " answered " + got + ", due is about " + due);
        }
    }

    void text(String call, String got, String due) {
        looked++;
        if (!got.equals(due)) {
            tell(call + " answered " + got + ", due is " + due);
        }
    }

    /** The very class is due: one below it would be an exception that was thrown by itself. */
    void thrown(String call, Class<?> due, Runnable run) {
        looked++;
        try {
            run.run();
        } catch (RuntimeException e) {
            if (e.getClass() != due) {
                tell(call + " throws " + e.getClass() + ", due is " + due);
            }
            return;
        }
        tell(call + " throws nothing, due is " + due);
    }

    void end() {
        System.out.println(looked + " answers looked at, " + wrong + " not as due");
        if (wrong != 0 || looked == 0) {
            System.exit(1);
        }
    }

    private void tell(String text) {
        wrong++;
        if (wrong <= 40) {
            System.out.println(text);
        }
    }
}
