import java.util.function.DoubleUnaryOperator;

/** Looks for the two doubles, one behind the other, between which something that grows reaches a bound. */
final class Edge {
    private Edge() {
    }

    /** The least a of low..high at which it is at least the bound; Math.nextDown of it is still below. */
    static double at(double bound, double low, double high, DoubleUnaryOperator grows) {
        while (Math.nextUp(low) < high) {
            double middle = low + (high - low) / 2.0;
            if (grows.applyAsDouble(middle) >= bound) {
                high = middle;
            } else {
                low = middle;
            }
        }
        return high;
    }
}
