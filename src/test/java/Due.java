import java.util.List;
import java.util.NoSuchElementException;
import java.util.function.Consumer;
import java.util.function.Supplier;

/** What the tests say of answers: every one that is not due is printed, and end() tells the outcome. */
final class Due {
    static final Class<?> ARGUMENT = IllegalArgumentException.class;
    static final Class<?> INDEX = IndexOutOfBoundsException.class;
    static final Class<?> STATE = IllegalStateException.class;
    static final Class<?> ELEMENT = NoSuchElementException.class;

    private String sentence = "";
    private int looked = 0;
    private int wrong = 0;

    /** The sentence of the document that the answers from here on are held against. */
    void sentence(String text) {
        sentence = text;
    }

    void same(String call, long got, long due) {
        looked++;
        if (got != due) {
            tell(call + " answered " + got + ", due is " + due);
        }
    }

    void same(String call, double got, double due) {
        looked++;
        if (Double.compare(got, due) != 0) {
            tell(call + " answered " + got + ", due is " + due);
        }
    }

    void near(String call, double got, double due, double apart) {
        looked++;
        if (!(Math.abs(got - due) <= apart)) {
            tell(call + " answered " + got + ", due is about " + due);
        }
    }

    void holds(String what, boolean holds) {
        looked++;
        if (!holds) {
            tell("it does not hold that " + what);
        }
    }

    void text(String call, String got, String due) {
        looked++;
        if (!got.equals(due)) {
            tell(call + " answered " + got + ", due is " + due);
        }
    }

    void texts(String call, List<String> got, List<String> due) {
        for (int i = 0; i < got.size() && i < due.size(); i++) {
            looked++;
            if (!got.get(i).equals(due.get(i))) {
                tell(call + ": " + got.get(i) + ", due is " + due.get(i));
                return;
            }
        }
        same(call + ": how many answers", got.size(), due.size());
    }

    /** The very class is due: one below it would be an exception that was thrown by itself. */
    void thrown(String call, Class<?> due, Runnable run) {
        looked++;
        try {
            run.run();
        } catch (RuntimeException e) {
            if (e.getClass() != due) {
                tell(call + " throws " + e.getClass() + ", due is " + due);
            }
            return;
        }
        tell(call + " throws nothing, due is " + due);
    }

    /** What a call throws, and that every call after it answers as if it had not been made. */
    void refused(String call, Class<?> due, Supplier<HearingDesk> made, Consumer<HearingDesk> run) {
        HearingDesk desk = made.get();
        thrown(call, due, () -> run.accept(desk));
        texts("after the refused " + call, Answers.of(desk), Answers.of(made.get()));
    }

    void end() {
        System.out.println(looked + " answers looked at, " + wrong + " not as due");
        if (wrong != 0 || looked == 0) {
            System.exit(1);
        }
    }

    private void tell(String text) {
        wrong++;
        if (wrong <= 40) {
            System.out.println((sentence.isEmpty() ? "" : "[" + sentence + "] ") + text);
        }
    }
}
