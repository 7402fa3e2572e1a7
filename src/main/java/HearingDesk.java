import java.util.NoSuchElementException;

/** Sounds that are heard as words, as the document DOC.md promises it. */
public final class HearingDesk {
    private static final int MOST_OCTETS = 400;
    private static final int MOST_SAMPLES = 320;
    private static final int MOST_WAVE = 64;
    private static final int MOST_PATTERNS = 6;
    private static final int MOST_ROWS = 8;
    private static final int MOST_LOOKED = 10;
    private static final int MOST_GAP = 4;
    private static final int HEADER = 44;
    private static final int STEPS = 32;
    private static final int HOP = 16;
    private static final int HIGHEST = 16;
    private static final int BANDS = 4;
    private static final int MOST_FRAMES = (MOST_SAMPLES - STEPS) / HOP + 1;
    private static final int UNKNOWN = 63;
    private static final int NONE = -1;

    private final SoundFile file;
    private final Circle circle;
    private final Sound sound;
    private final PatternBook book;
    private final WordList words;
    private int rate;
    private int wrongPlace;
    private double threshold;
    private int gap;
    private double limit;

    public HearingDesk() {
        file = new SoundFile();
        circle = new Circle();
        sound = new Sound(circle);
        book = new PatternBook();
        words = new WordList();
        rate = 8000;
        wrongPlace = NONE;
        threshold = 0.01;
        gap = 2;
        limit = 4.0;
    }

    public int octets(int n, long w) throws IllegalArgumentException, IndexOutOfBoundsException {
        if (n < 1 || n > 8) {
            throw new IllegalArgumentException("1 to 8 octets come at once");
        }
        if (file.size + n > MOST_OCTETS) {
            throw new IndexOutOfBoundsException("a file has up to 400 octets");
        }
        for (int i = 0; i < n; i++) {
            file.append((int) (w >>> (8 * i)) & 255);
        }
        return file.size;
    }

    public int read() throws IllegalArgumentException, IndexOutOfBoundsException {
        wrongPlace = file.firstWrong();
        if (wrongPlace != NONE) {
            file.empty();
            throw new IllegalArgumentException("this is no file of samples");
        }
        int n = file.sampleCount();
        if (n > MOST_SAMPLES) {
            file.empty();
            throw new IndexOutOfBoundsException("there are up to 320 samples");
        }
        sound.empty();
        for (int i = 0; i < n; i++) {
            sound.append(file.sampleAt(i));
        }
        rate = (int) file.rateSaid();
        words.empty();
        file.empty();
        return n;
    }

    public int place() {
        return wrongPlace;
    }

    public int wave(int n, int step, double a) throws IllegalArgumentException, IndexOutOfBoundsException {
        if (n < 1 || n > MOST_WAVE || step < 0 || step >= STEPS) {
            throw new IllegalArgumentException("a wave has 1 to 64 samples and a step of 0 to 31");
        }
        if (sound.size + n > MOST_SAMPLES) {
            throw new IndexOutOfBoundsException("there are up to 320 samples");
        }
        for (int i = 0; i < n; i++) {
            sound.append(Numbers.swing(a, circle.cosines[i * step % STEPS]));
        }
        return sound.size;
    }

    public int clear() {
        int n = sound.size;
        sound.empty();
        words.empty();
        return n;
    }

    public double sample(int i) throws IndexOutOfBoundsException {
        if (i < 0 || i >= sound.size) {
            throw new IndexOutOfBoundsException("there is no such sample");
        }
        return sound.samples[i];
    }

    public double power(int f, int k) throws IndexOutOfBoundsException, IllegalArgumentException {
        if (f < 0 || f >= sound.frames()) {
            throw new IndexOutOfBoundsException("there is no such frame");
        }
        if (k < 0 || k > HIGHEST) {
            throw new IllegalArgumentException("frequencies are 0 to 16");
        }
        sound.weigh(f);
        return sound.strength(k);
    }

    public double level(int f, int b) throws IndexOutOfBoundsException, IllegalArgumentException {
        if (f < 0 || f >= sound.frames()) {
            throw new IndexOutOfBoundsException("there is no such frame");
        }
        if (b < 0 || b >= BANDS) {
            throw new IllegalArgumentException("bands are 0 to 3");
        }
        sound.judge();
        return sound.levels[f * BANDS + b];
    }

    public void ways(double threshold, int gap, double limit) throws IllegalArgumentException {
        if (!(threshold > 0.0) || gap < 1 || gap > MOST_GAP || limit < 0.0) {
            throw new IllegalArgumentException("the threshold is above 0.0, the gap 1 to 4, the limit not below 0.0");
        }
        this.threshold = threshold;
        this.gap = gap;
        this.limit = limit;
    }

    public int learn(int letter, int f, int n) throws IllegalArgumentException, IndexOutOfBoundsException {
        if (letter < 97 || letter > 122 || n < 1 || n > MOST_ROWS) {
            throw new IllegalArgumentException("letters are 97 to 122, a pattern has 1 to 8 rows");
        }
        if (f < 0 || f > sound.frames() - n || book.size == MOST_PATTERNS) {
            throw new IndexOutOfBoundsException("a frame is not there, or there are 6 patterns");
        }
        sound.judge();
        book.append(letter, sound.levels, f, n);
        return book.size;
    }

    public int forget(int k) throws NoSuchElementException {
        if (k < 0 || k >= book.size) {
            throw new NoSuchElementException("there is no such pattern");
        }
        return book.takeOut(k);
    }

    public double warp(int k, int j) throws NoSuchElementException {
        if (k < 0 || k >= book.size || j < 0 || j >= book.size) {
            throw new NoSuchElementException("there is no such pattern");
        }
        return book.distance(book.patterns[k].levels, 0, book.patterns[k].rows, book.patterns[j]);
    }

    public int hear() throws IllegalStateException {
        if (sound.frames() == 0) {
            throw new IllegalStateException("there is no frame");
        }
        sound.judge();
        words.cutOut(sound, threshold, gap);
        for (int k = 0; k < words.size; k++) {
            words.row[k].recognise(sound, book, limit);
        }
        return words.size;
    }

    public int word(int k, int what) throws NoSuchElementException, IllegalArgumentException {
        if (k < 0 || k >= words.size) {
            throw new NoSuchElementException("there is no such word");
        }
        Word word = words.row[k];
        switch (what) {
            case 0: return word.letter;
            case 1: return word.first;
            case 2: return word.frames;
            case 3: return word.nearest;
            case 4: return milliseconds(HOP * word.first);
            case 5: return milliseconds(HOP * (word.first + word.frames) + HOP);
            default: throw new IllegalArgumentException("0 to 5 can be asked of a word");
        }
    }

    public double cost(int k) throws NoSuchElementException, IllegalStateException {
        if (k < 0 || k >= words.size) {
            throw new NoSuchElementException("there is no such word");
        }
        if (words.row[k].nearest == NONE) {
            throw new IllegalStateException("there were no patterns");
        }
        return words.row[k].leastWarp;
    }

    public int count(int what) throws IllegalArgumentException {
        switch (what) {
            case 0: return file.size;
            case 1: return sound.size;
            case 2: return sound.frames();
            case 3: return rate;
            case 4: return book.size;
            case 5: return words.size;
            case 6: return loudFrames();
            default: throw new IllegalArgumentException("0 to 6 can be counted");
        }
    }

    private int milliseconds(int sampleCount) {
        return sampleCount * 1000 / rate;
    }

    private int loudFrames() {
        sound.judge();
        int loud = 0;
        for (int f = 0; f < sound.frames(); f++) {
            if (sound.loudness(f) >= threshold) {
                loud++;
            }
        }
        return loud;
    }

    /** What is reckoned with single numbers, so that no operation ever answers NaN. */
    private static final class Numbers {
        private Numbers() {
        }

        /** The nearest finite number: sums may run over, and the document sets a wave no bound. */
        static double finite(double x) {
            if (x != x) {
                return 0.0;
            }
            if (x > 1.7976931348623157E308) {
                return 1.7976931348623157E308;
            }
            return x < -1.7976931348623157E308 ? -1.7976931348623157E308 : x;
        }

        /** a * cosine; an a without end times 0.0 would be NaN, and an a that is NaN stays as it came. */
        static double swing(double a, double cosine) {
            if (a != a) {
                return a;
            }
            return cosine == 0.0 ? finite(a) * cosine : a * cosine;
        }

        /** LN of a number above 0.0; halving what has no end would not end, so the greatest number stands for it. */
        static double logarithm(double number) {
            double x = finite(number);
            int k = 0;
            for (int turn = 0; turn < 2000 && x >= 1.5; turn++) {
                x = x / 2.0;
                k++;
            }
            for (int turn = 0; turn < 2000 && x < 0.75; turn++) {
                x = x * 2.0;
                k--;
            }
            double z = (x - 1.0) / (x + 1.0);
            double y = z * z;
            double s = 0.0;
            for (int j = 19; j >= 1; j -= 2) {
                s = s * y + 1.0 / j;
            }
            return 2.0 * z * s + k * 0.6931471805599453;
        }
    }

    /** C and S of the 32 steps of a circle, and the window that is made of C. */
    private static final class Circle {
        private final double[] cosines;
        private final double[] sines;
        private final double[] window;

        Circle() {
            cosines = new double[STEPS];
            sines = new double[STEPS];
            window = new double[STEPS];
            for (int n = 0; n < STEPS; n++) {
                double angle = (n >= 17 ? n - 32 : n) * (6.283185307179586 / 32.0);
                cosines[n] = series(angle * angle, 24);
                sines[n] = angle * series(angle * angle, 25);
                window[n] = 0.5 - 0.5 * cosines[n];
            }
        }

        private static double series(double y, int highest) {
            double s = 1.0;
            for (int j = highest; j >= 2; j -= 2) {
                s = 1.0 - y * s / (j * (j - 1));
            }
            return s;
        }
    }

    /** The FILE: its octets, and what they say. */
    private static final class SoundFile {
        private final int[] octets;
        private int size;

        SoundFile() {
            octets = new int[MOST_OCTETS];
            size = 0;
        }

        void append(int octet) {
            if (size < MOST_OCTETS) {
                octets[size] = octet;
                size++;
            }
        }

        void empty() {
            size = 0;
        }

        /** Where the first number begins that is not as the document says, NONE if all are so. */
        int firstWrong() {
            if (size < HEADER) {
                return size;
            }
            int at = firstWrongOfHead();
            return at != NONE ? at : firstWrongOfForm();
        }

        private int firstWrongOfHead() {
            if (!spells(0, 82, 73, 70, 70)) {
                return 0;
            }
            if (four(4) != size - 8) {
                return 4;
            }
            if (!spells(8, 87, 65, 86, 69)) {
                return 8;
            }
            if (!spells(12, 102, 109, 116, 32)) {
                return 12;
            }
            if (four(16) != 16) {
                return 16;
            }
            return two(20) != 1 ? 20 : NONE;
        }

        private int firstWrongOfForm() {
            if (channels() != 1 && channels() != 2) {
                return 22;
            }
            if (rateSaid() < 1000 || rateSaid() > 48000) {
                return 24;
            }
            if (four(28) != rateSaid() * width()) {
                return 28;
            }
            // eightfold, so that bits that fill no whole octets are not cut
            if (8 * width() != channels() * bits()) {
                return 32;
            }
            if (bits() != 8 && bits() != 16) {
                return 34;
            }
            if (!spells(36, 100, 97, 116, 97)) {
                return 36;
            }
            return four(40) != size - HEADER || (size - HEADER) % width() != 0 ? 40 : NONE;
        }

        private boolean spells(int at, int first, int second, int third, int fourth) {
            return octets[at] == first && octets[at + 1] == second
                && octets[at + 2] == third && octets[at + 3] == fourth;
        }

        private int two(int at) {
            return octets[at] + 256 * octets[at + 1];
        }

        private long four(int at) {
            return two(at) + 65536L * two(at + 2);
        }

        private int channels() {
            return two(22);
        }

        long rateSaid() {
            return four(24);
        }

        private int width() {
            return two(32);
        }

        private int bits() {
            return two(34);
        }

        /** Of a FILE without fault alone: only there is the width known not to be 0. */
        int sampleCount() {
            return width() == 0 ? 0 : (size - HEADER) / width();
        }

        double sampleAt(int i) {
            int at = HEADER + i * width();
            if (channels() == 1) {
                return channelAt(at);
            }
            return (channelAt(at) + channelAt(at + bits() / 8)) / 2.0;
        }

        private double channelAt(int at) {
            if (bits() == 8) {
                return (octets[at] - 128) * 256 / 32768.0;
            }
            int number = two(at);
            return (number >= 32768 ? number - 65536 : number) / 32768.0;
        }
    }

    /** The SAMPLES, and the FRAMES that they make. */
    private static final class Sound {
        private final Circle circle;
        private final double[] samples;
        private final double[] weighed;
        private final double[] sums;
        private final double[] levels;
        private int size;
        private int judged;

        Sound(Circle circle) {
            this.circle = circle;
            samples = new double[MOST_SAMPLES];
            weighed = new double[STEPS];
            sums = new double[MOST_FRAMES * BANDS];
            levels = new double[MOST_FRAMES * BANDS];
            size = 0;
            judged = 0;
        }

        void append(double sample) {
            if (size < MOST_SAMPLES) {
                samples[size] = sample;
                size++;
            }
        }

        void empty() {
            size = 0;
            judged = 0;
        }

        int frames() {
            return size < STEPS ? 0 : (size - STEPS) / HOP + 1;
        }

        void weigh(int f) {
            for (int i = 0; i < STEPS; i++) {
                weighed[i] = Numbers.finite(samples[HOP * f + i]) * circle.window[i];
            }
        }

        /** P of the frame that was weighed last. */
        double strength(int k) {
            double re = 0.0;
            double im = 0.0;
            for (int i = 0; i < STEPS; i++) {
                int turn = k * i % STEPS;
                re = re + weighed[i] * circle.cosines[turn];
                im = im - weighed[i] * circle.sines[turn];
            }
            return re * re + im * im;
        }

        /** Frames are dear and never change once they are there, so each is judged but once. */
        void judge() {
            int frames = frames();
            for (int f = judged; f < frames; f++) {
                weigh(f);
                judgeBand(f * BANDS, 1, 2);
                judgeBand(f * BANDS + 1, 3, 4);
                judgeBand(f * BANDS + 2, 5, 8);
                judgeBand(f * BANDS + 3, 9, HIGHEST);
            }
            judged = frames;
        }

        private void judgeBand(int at, int lowest, int highest) {
            double sum = 0.0;
            for (int k = lowest; k <= highest; k++) {
                sum = sum + strength(k);
            }
            sums[at] = sum;
            levels[at] = Numbers.logarithm(sum > 0.0000000001 ? sum : 0.0000000001);
        }

        /** Of a judged frame. */
        double loudness(int f) {
            double sum = 0.0;
            for (int b = 0; b < BANDS; b++) {
                sum = sum + sums[f * BANDS + b];
            }
            return sum;
        }
    }

    /** A PATTERN: its rows of levels lie one behind the other. */
    private static final class Pattern {
        private final double[] levels;
        private int letter;
        private int rows;

        Pattern() {
            levels = new double[MOST_ROWS * BANDS];
            letter = UNKNOWN;
            rows = 0;
        }
    }

    /** The PATTERNS, and how far rows are from them when time is warped. */
    private static final class PatternBook {
        private final Pattern[] patterns;
        private final double[] paths;
        private int size;

        PatternBook() {
            patterns = new Pattern[MOST_PATTERNS];
            for (int k = 0; k < MOST_PATTERNS; k++) {
                patterns[k] = new Pattern();
            }
            paths = new double[MOST_LOOKED * MOST_ROWS];
            size = 0;
        }

        void append(int letter, double[] levels, int f, int n) {
            if (size < MOST_PATTERNS) {
                Pattern pattern = patterns[size];
                pattern.letter = letter;
                pattern.rows = n;
                System.arraycopy(levels, f * BANDS, pattern.levels, 0, n * BANDS);
                size++;
            }
        }

        /** The object goes behind the others, so that a later pattern can use it again. */
        int takeOut(int k) {
            Pattern gone = patterns[k];
            for (int i = k; i < size - 1; i++) {
                patterns[i] = patterns[i + 1];
            }
            size--;
            patterns[size] = gone;
            return gone.letter;
        }

        /** WARP of n rows of levels, from row f on, and the rows of a pattern. */
        double distance(double[] levels, int f, int n, Pattern pattern) {
            int m = pattern.rows;
            for (int i = 0; i < n; i++) {
                for (int j = 0; j < m; j++) {
                    paths[i * MOST_ROWS + j] = far(levels, f + i, pattern.levels, j) + leastBefore(i, j);
                }
            }
            return paths[(n - 1) * MOST_ROWS + m - 1] / (n + m);
        }

        private static double far(double[] first, int i, double[] second, int j) {
            double sum = 0.0;
            for (int b = 0; b < BANDS; b++) {
                double d = first[i * BANDS + b] - second[j * BANDS + b];
                sum = sum + d * d;
            }
            return sum;
        }

        /** 0.0 where nothing is before: adding it leaves a sum of squares as it is. */
        private double leastBefore(int i, int j) {
            int at = i * MOST_ROWS + j;
            if (i == 0) {
                return j == 0 ? 0.0 : paths[at - 1];
            }
            double least = paths[at - MOST_ROWS];
            if (j > 0) {
                least = lesser(least, paths[at - 1]);
                least = lesser(least, paths[at - MOST_ROWS - 1]);
            }
            return least;
        }

        private static double lesser(double a, double b) {
            return b < a ? b : a;
        }
    }

    /** A WORD, with what it was taken for when it was heard. */
    private static final class Word {
        private int first;
        private int frames;
        private int nearest;
        private int letter;
        private double leastWarp;

        Word() {
            begin(0);
        }

        private void begin(int f) {
            first = f;
            frames = 1;
            nearest = NONE;
            letter = UNKNOWN;
            leastWarp = 0.0;
        }

        private void reach(int f) {
            frames = f - first + 1;
        }

        void recognise(Sound sound, PatternBook book, double limit) {
            for (int k = 0; k < book.size; k++) {
                double distance = book.distance(sound.levels, first, frames, book.patterns[k]);
                if (nearest == NONE || distance < leastWarp) {
                    nearest = k;
                    leastWarp = distance;
                }
            }
            if (nearest != NONE && leastWarp <= limit) {
                letter = book.patterns[nearest].letter;
            }
        }
    }

    /** The WORDS: never more than there are frames. */
    private static final class WordList {
        private final Word[] row;
        private int size;

        WordList() {
            row = new Word[MOST_FRAMES];
            for (int k = 0; k < MOST_FRAMES; k++) {
                row[k] = new Word();
            }
            size = 0;
        }

        void empty() {
            size = 0;
        }

        /** Finds the words of a judged sound; looked is how many frames of the open word were seen, 0 if none is. */
        void cutOut(Sound sound, double threshold, int gap) {
            size = 0;
            int looked = 0;
            int quiet = 0;
            for (int f = 0; f < sound.frames(); f++) {
                boolean loud = sound.loudness(f) >= threshold;
                if (looked == 0 && !loud) {
                    continue;
                }
                if (looked == 0) {
                    row[size].begin(f);
                    size++;
                }
                looked++;
                quiet = loud ? 0 : quiet + 1;
                if (loud) {
                    row[size - 1].reach(f);
                }
                if (quiet == gap || looked == MOST_LOOKED) {
                    looked = 0;
                }
            }
        }
    }
}
