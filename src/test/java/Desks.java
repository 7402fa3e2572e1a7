/** Desks in states that the tests need, each made with few of the 512 calls that an object has. */
final class Desks {
    private static final int[] LOWEST = {1, 3, 5, 9, 17};

    private Desks() {
    }

    /** A desk whose k-th hop of 16 samples is loud where the text has a '#': frame f is of hops f and f + 1. */
    static HearingDesk hops(String text) {
        HearingDesk desk = new HearingDesk();
        for (char hop : text.toCharArray()) {
            desk.wave(16, 4, hop == '#' ? 1.0 : 0.0);
        }
        return desk;
    }

    /**
     * A desk with a frame for each character: '#' and '+' are loud, ',' is so at the first threshold but not at 0.5,
     * '.' is silent. A pulse in the middle of frame f is the first sample of frame f + 1, where it weighs nothing.
     */
    static HearingDesk frames(String text) {
        HearingDesk desk = new HearingDesk();
        more(desk, "." + text);
        return desk;
    }

    /** Frames behind those that frames(..) has made. */
    static void more(HearingDesk desk, String text) {
        for (char frame : text.toCharArray()) {
            desk.wave(1, 0, frame == '#' ? 1.0 : frame == '+' ? 5.0 : frame == ',' ? 0.1 : 0.0);
            desk.wave(15, 0, 0.0);
        }
    }

    /** A desk with a single frame that is silent but for its i-th sample. */
    static HearingDesk pulse(int i, double a) {
        HearingDesk desk = new HearingDesk();
        silence(desk, i);
        desk.wave(1, 0, a);
        silence(desk, 31 - i);
        return desk;
    }

    static HearingDesk silence(HearingDesk desk, int n) {
        for (int left = n; left > 0; left -= 64) {
            desk.wave(Math.min(64, left), 0, 0.0);
        }
        return desk;
    }

    /** A desk with a single frame, a tone. */
    static HearingDesk tone(double a) {
        HearingDesk desk = new HearingDesk();
        desk.wave(32, 4, a);
        return desk;
    }

    /** Five tones of 64 samples: 320 of them, 19 frames. */
    static HearingDesk tones() {
        HearingDesk desk = new HearingDesk();
        for (int i = 0; i < 5; i++) {
            desk.wave(64, 1 + 3 * i, 1.0 + i);
        }
        return desk;
    }

    /** A desk with samples, patterns and words, its rate and its ways not those of a new one. */
    static HearingDesk heard() {
        HearingDesk desk = new HearingDesk();
        Wav.pour(desk, Wav.file(1, 11025, 8));
        desk.read();
        more(desk, ".+,#...+....#,..#");
        desk.ways(0.5, 3, 25.0);
        desk.learn(99, 0, 1);
        desk.learn(100, 5, 3);
        desk.learn(101, 11, 4);
        desk.hear();
        return desk;
    }

    /** A desk with something of everything: also with a file, behind three octets that were none. */
    static HearingDesk busy() {
        HearingDesk desk = Wav.pour(heard(), 82, 73, 70);
        try {
            desk.read();
        } catch (IllegalArgumentException e) {
            // place() is 3 now
        }
        return Wav.pour(desk, Wav.file(2, 22050, 16, 1, 2, 3, 4, 5, 6, 7, 8, 9, 10, 11, 12));
    }

    static double bandSum(HearingDesk desk, int f, int b) {
        double sum = 0.0;
        for (int k = LOWEST[b]; k < LOWEST[b + 1]; k++) {
            sum = sum + desk.power(f, k);
        }
        return sum;
    }

    static double loudness(HearingDesk desk, int f) {
        double sum = 0.0;
        for (int b = 0; b < 4; b++) {
            sum = sum + bandSum(desk, f, b);
        }
        return sum;
    }
}
