import java.util.ArrayList;
import java.util.List;
import java.util.NoSuchElementException;

/** The document once more, as slow and as plain as it can be written, to hold the class against. */
final class PlainModel {
    private record Row(double[] levels) {
    }

    private record Known(int letter, List<Row> rows) {
    }

    private record Heard(int first, int last, int letter, int pattern, double cost) {
    }

    private List<Integer> file = new ArrayList<>();
    private List<Double> samples = new ArrayList<>();
    private final List<Known> patterns = new ArrayList<>();
    private List<Heard> words = new ArrayList<>();
    private int rate = 8000;
    private int place = -1;
    private double threshold = 0.01;
    private int gap = 2;
    private double limit = 4.0;

    static double a(int n) {
        return (n >= 17 ? n - 32 : n) * (6.283185307179586 / 32.0);
    }

    static double c(int n) {
        double y = a(n) * a(n);
        double s = 1.0;
        for (int j = 24; j != 0; j -= 2) {
            s = 1.0 - y * s / (j * (j - 1));
        }
        return s;
    }

    static double s(int n) {
        double y = a(n) * a(n);
        double s = 1.0;
        for (int j = 25; j != 1; j -= 2) {
            s = 1.0 - y * s / (j * (j - 1));
        }
        return a(n) * s;
    }

    static double ln(double x) {
        state(x > 0.0 && x < Double.POSITIVE_INFINITY);
        int k = 0;
        while (x >= 1.5) {
            x = x / 2.0;
            k = k + 1;
        }
        while (x < 0.75) {
            x = x * 2.0;
            k = k - 1;
        }
        double z = (x - 1.0) / (x + 1.0);
        double y = z * z;
        double s = 0.0;
        for (int j = 19; j > 0; j -= 2) {
            s = s * y + 1.0 / j;
        }
        return 2.0 * z * s + k * 0.6931471805599453;
    }

    private static void argument(boolean holds) {
        if (!holds) {
            throw new IllegalArgumentException();
        }
    }

    private static void index(boolean holds) {
        if (!holds) {
            throw new IndexOutOfBoundsException();
        }
    }

    private static void element(boolean holds) {
        if (!holds) {
            throw new NoSuchElementException();
        }
    }

    private static void state(boolean holds) {
        if (!holds) {
            throw new IllegalStateException();
        }
    }

    int octets(int n, long w) {
        argument(n >= 1 && n <= 8);
        index(file.size() + n <= 400);
        for (int i = 0; i < n; i++) {
            file.add((int) (w & 255));
            w >>= 8;
        }
        return file.size();
    }

    private long number(int from, int to) {
        long number = 0;
        for (int at = to; at >= from; at--) {
            number = number * 256 + file.get(at);
        }
        return number;
    }

    private int firstWrong() {
        if (file.size() < 44) {
            return file.size();
        }
        long channels = number(22, 23);
        long said = number(24, 27);
        long width = number(32, 33);
        long bits = number(34, 35);
        Object[][] asked = {
            {0, file.subList(0, 4).equals(List.of(82, 73, 70, 70))},
            {4, number(4, 7) == file.size() - 8},
            {8, file.subList(8, 12).equals(List.of(87, 65, 86, 69))},
            {12, file.subList(12, 16).equals(List.of(102, 109, 116, 32))},
            {16, number(16, 19) == 16},
            {20, number(20, 21) == 1},
            {22, channels == 1 || channels == 2},
            {24, said >= 1000 && said <= 48000},
            {28, number(28, 31) == said * width},
            {32, (double) width == (double) channels * bits / 8.0},
            {34, bits == 8 || bits == 16},
            {36, file.subList(36, 40).equals(List.of(100, 97, 116, 97))},
            {40, number(40, 43) == file.size() - 44 && width != 0 && number(40, 43) % width == 0},
        };
        for (Object[] row : asked) {
            if (!(Boolean) row[1]) {
                return (Integer) row[0];
            }
        }
        return -1;
    }

    private double channel(int at, int octets) {
        if (octets == 1) {
            return (file.get(at) - 128) * 256 / 32768.0;
        }
        return (short) number(at, at + 1) / 32768.0;
    }

    int read() {
        place = firstWrong();
        List<Double> read = new ArrayList<>();
        int said = 0;
        if (place == -1) {
            said = (int) number(24, 27);
            int octets = (int) number(34, 35) / 8;
            boolean both = number(22, 23) == 2;
            for (int at = 44; at < file.size(); at += (int) number(32, 33)) {
                double first = channel(at, octets);
                read.add(both ? (first + channel(at + octets, octets)) / 2.0 : first);
            }
        }
        file = new ArrayList<>();
        argument(place == -1);
        index(read.size() <= 320);
        samples = read;
        rate = said;
        words = new ArrayList<>();
        return read.size();
    }

    int place() {
        return place;
    }

    int wave(int n, int step, double a) {
        argument(n >= 1 && n <= 64 && step >= 0 && step <= 31);
        index(samples.size() + n <= 320);
        for (int i = 0; i < n; i++) {
            samples.add(a * c(i * step % 32));
        }
        return samples.size();
    }

    int clear() {
        int n = samples.size();
        samples = new ArrayList<>();
        words = new ArrayList<>();
        return n;
    }

    double sample(int i) {
        index(i >= 0 && i < samples.size());
        return samples.get(i);
    }

    private int frames() {
        int n = 0;
        while (16 * n + 31 < samples.size()) {
            n++;
        }
        return n;
    }

    private double p(int f, int k) {
        double re = 0.0;
        double im = 0.0;
        for (int i = 0; i <= 31; i++) {
            double v = samples.get(16 * f + i) * (0.5 - 0.5 * c(i));
            re = re + v * c(k * i % 32);
            im = im - v * s(k * i % 32);
        }
        return re * re + im * im;
    }

    private double sum(int f, int b) {
        int[] lowest = {1, 3, 5, 9, 17};
        double sum = 0.0;
        for (int k = lowest[b]; k < lowest[b + 1]; k++) {
            sum = sum + p(f, k);
        }
        return sum;
    }

    private double band(int f, int b) {
        double sum = sum(f, b);
        return ln(sum > 0.0000000001 ? sum : 0.0000000001);
    }

    private boolean loud(int f) {
        return 0.0 + sum(f, 0) + sum(f, 1) + sum(f, 2) + sum(f, 3) >= threshold;
    }

    private Row row(int f) {
        return new Row(new double[] {band(f, 0), band(f, 1), band(f, 2), band(f, 3)});
    }

    private List<Row> rows(int f, int n) {
        List<Row> rows = new ArrayList<>();
        for (int i = 0; i < n; i++) {
            rows.add(row(f + i));
        }
        return rows;
    }

    double power(int f, int k) {
        index(f >= 0 && f < frames());
        argument(k >= 0 && k <= 16);
        return p(f, k);
    }

    double level(int f, int b) {
        index(f >= 0 && f < frames());
        argument(b >= 0 && b <= 3);
        return band(f, b);
    }

    void ways(double threshold, int gap, double limit) {
        argument(threshold > 0.0 && gap >= 1 && gap <= 4 && !(limit < 0.0));
        this.threshold = threshold;
        this.gap = gap;
        this.limit = limit;
    }

    int learn(int letter, int f, int n) {
        argument(letter >= 97 && letter <= 122 && n >= 1 && n <= 8);
        index(f >= 0 && (long) f + n <= frames() && patterns.size() < 6);
        patterns.add(new Known(letter, rows(f, n)));
        return patterns.size();
    }

    int forget(int k) {
        element(k >= 0 && k < patterns.size());
        return patterns.remove(k).letter();
    }

    private static double far(Row first, Row second) {
        double sum = 0.0;
        for (int b = 0; b < 4; b++) {
            double d = first.levels()[b] - second.levels()[b];
            sum = sum + d * d;
        }
        return sum;
    }

    private static double warp(List<Row> first, List<Row> second) {
        double[][] d = new double[first.size()][second.size()];
        for (int i = 0; i < first.size(); i++) {
            for (int j = 0; j < second.size(); j++) {
                double least = Double.POSITIVE_INFINITY;
                least = i > 0 && j > 0 ? Math.min(least, d[i - 1][j - 1]) : least;
                least = i > 0 ? Math.min(least, d[i - 1][j]) : least;
                least = j > 0 ? Math.min(least, d[i][j - 1]) : least;
                d[i][j] = far(first.get(i), second.get(j)) + (i == 0 && j == 0 ? 0.0 : least);
            }
        }
        return d[first.size() - 1][second.size() - 1] / (first.size() + second.size());
    }

    double warp(int k, int j) {
        element(k >= 0 && k < patterns.size() && j >= 0 && j < patterns.size());
        return warp(patterns.get(k).rows(), patterns.get(j).rows());
    }

    int hear() {
        int frames = frames();
        state(frames > 0);
        words = new ArrayList<>();
        int f = 0;
        while (f < frames) {
            if (!loud(f)) {
                f++;
                continue;
            }
            int first = f;
            int last = f;
            int quiet = 0;
            while (f < frames && f - first < 10 && quiet < gap) {
                quiet = loud(f) ? 0 : quiet + 1;
                last = loud(f) ? f : last;
                f++;
            }
            words.add(heard(first, last));
        }
        return words.size();
    }

    private Heard heard(int first, int last) {
        List<Row> rows = rows(first, last - first + 1);
        int pattern = -1;
        double cost = Double.POSITIVE_INFINITY;
        for (int k = 0; k < patterns.size(); k++) {
            double warp = warp(rows, patterns.get(k).rows());
            if (warp < cost) {
                cost = warp;
                pattern = k;
            }
        }
        int letter = pattern >= 0 && cost <= limit ? patterns.get(pattern).letter() : 63;
        return new Heard(first, last, letter, pattern, cost);
    }

    int word(int k, int what) {
        element(k >= 0 && k < words.size());
        argument(what >= 0 && what <= 5);
        Heard word = words.get(k);
        int[] answers = {word.letter(), word.first(), word.last() - word.first() + 1, word.pattern(),
            16 * word.first() * 1000 / rate, (16 * (word.last() + 1) + 16) * 1000 / rate};
        return answers[what];
    }

    double cost(int k) {
        element(k >= 0 && k < words.size());
        state(words.get(k).pattern() >= 0);
        return words.get(k).cost();
    }

    int count(int what) {
        argument(what >= 0 && what <= 6);
        int loud = 0;
        for (int f = 0; what == 6 && f < frames(); f++) {
            loud += loud(f) ? 1 : 0;
        }
        int[] answers = {file.size(), samples.size(), frames(), rate, patterns.size(), words.size(), loud};
        return answers[what];
    }
}
