/** The boundary cases of S, LN, FRAMES, P, BANDS and LEVEL, and of promises 8 (power) and 9 (level). */
public final class FrequencyEdgesTest {
    private static final int LEAST = Integer.MIN_VALUE;
    private static final int MOST = Integer.MAX_VALUE;
    private static final Due due = new Due();

    public static void main(String[] args) {
        sinesFromSeventeenOn();
        windowOfAFrame();
        moduloThirtyTwo();
        samplesOfAFrame();
        frequenciesOfAFrame();
        framesThatAreNotThere();
        frequenciesThatAreNot();
        bands();
        bandsThatAreNot();
        levelsOfFramesThatAreNot();
        oneAndAHalfOrMore();
        belowThreeQuarters();
        farFromOne();
        notAboveTheFloor();
        due.end();
    }

    /** P of a frame whose samples i and j alone are not 0.0. */
    private static double powerOfTwo(int i, double a, int j, double b, int k) {
        double v = a * (0.5 - 0.5 * PlainModel.c(i));
        double w = b * (0.5 - 0.5 * PlainModel.c(j));
        double re = v * PlainModel.c(k * i % 32) + w * PlainModel.c(k * j % 32);
        double im = 0.0 - v * PlainModel.s(k * i % 32) - w * PlainModel.s(k * j % 32);
        return re * re + im * im;
    }

    private static HearingDesk twoPulses(int i, double a, int j, double b) {
        HearingDesk desk = Desks.silence(new HearingDesk(), i);
        desk.wave(1, 0, a);
        Desks.silence(desk, j - i - 1);
        desk.wave(1, 0, b);
        return Desks.silence(desk, 31 - j);
    }

    private static void sinesFromSeventeenOn() {
        due.sentence("A(n): from 17 on n - 32; S(n)");
        for (int n = 1; n < 32; n++) {
            for (int j = n + 1; j < 32; j++) {
                double got = twoPulses(n, 1.0, j, 3.0).power(0, 1);
                due.same("power(0, 1) of S(" + n + ") and S(" + j + ")", got, powerOfTwo(n, 1.0, j, 3.0, 1));
            }
        }
    }

    private static void windowOfAFrame() {
        due.sentence("P: for i 0 to 31: v is SAMPLE * (0.5 - 0.5 * C(i))");
        for (int i = 0; i < 32; i++) {
            double weight = 0.5 - 0.5 * Math.cos(i * Math.PI / 16);
            due.near("power(0, 0) of sample " + i, Desks.pulse(i, 1000.0).power(0, 0), 1e6 * weight * weight, 1e-6);
        }
        for (int k = 0; k <= 16; k++) {
            due.same("the first sample weighs nothing at " + k, Desks.pulse(0, 1000.0).power(0, k), 0.0);
        }
    }

    private static void moduloThirtyTwo() {
        due.sentence("P: C(k * i modulo 32), S(likewise)");
        for (int i = 0; i < 32; i++) {
            HearingDesk desk = Desks.pulse(i, -7.0);
            for (int k = 0; k <= 16; k++) {
                due.same("power(0, " + k + ") of sample " + i, desk.power(0, k), powerOfTwo(i, -7.0, 0, 0.0, k));
            }
        }
        for (int i = 2; i < 31; i += 3) {
            HearingDesk desk = twoPulses(i, 3.0, 31, 5.0);
            for (int k = 0; k <= 16; k++) {
                due.same("power(0, " + k + ") of " + i + " and 31", desk.power(0, k), powerOfTwo(i, 3.0, 31, 5.0, k));
            }
        }
    }

    private static void samplesOfAFrame() {
        due.sentence("FRAMES: the f-th is of SAMPLES 16 f to 16 f + 31");
        for (int at : new int[] {1, 15, 16, 17, 31, 32, 33, 47, 48, 49, 79, 287, 288, 289, 303, 304, 305, 319}) {
            HearingDesk desk = Desks.silence(new HearingDesk(), at);
            desk.wave(1, 0, 1.0);
            Desks.silence(desk, 319 - at);
            for (int f = 0; f <= 18; f++) {
                int i = at - 16 * f;
                double of = i >= 0 && i <= 31 ? powerOfTwo(i, 1.0, 0, 0.0, 3) : 0.0;
                due.same("power(" + f + ", 3) of sample " + at, desk.power(f, 3), of);
            }
        }
    }

    private static void frequenciesOfAFrame() {
        due.sentence("P(f, k) for k 0 to 16");
        HearingDesk desk = new HearingDesk();
        desk.wave(32, 0, 1.0);
        due.near("power(0, 0) of an even tone", desk.power(0, 0), 256.0, 1e-9);
        due.near("power(0, 1) of an even tone", desk.power(0, 1), 64.0, 1e-9);
        due.near("power(0, 16) of an even tone", desk.power(0, 16), 0.0, 1e-9);
        HearingDesk highest = new HearingDesk();
        highest.wave(32, 16, 1.0);
        due.near("power(0, 16) of the highest tone", highest.power(0, 16), 256.0, 1e-9);
        due.near("power(0, 15) of the highest tone", highest.power(0, 15), 64.0, 1e-9);
        due.near("power(0, 0) of the highest tone", highest.power(0, 0), 0.0, 1e-9);
    }

    private static HearingDesk samples(int n) {
        HearingDesk desk = new HearingDesk();
        for (int left = n; left > 0; left -= 64) {
            desk.wave(Math.min(64, left), 3, 1.0);
        }
        return desk;
    }

    private static void framesThatAreNotThere() {
        due.sentence("Promise 8: IndexOutOfBoundsException: there is no such FRAME");
        int[][] frames = {{0, 0}, {31, 0}, {32, 1}, {47, 1}, {48, 2}, {319, 18}, {320, 19}};
        for (int[] row : frames) {
            if (row[1] > 0) {
                due.holds("the last frame of " + row[0] + " is there", samples(row[0]).power(row[1] - 1, 3) > 0.0);
            }
            for (int f : new int[] {row[1], row[1] + 1, -1, LEAST, MOST, MOST / 16 + 1}) {
                due.refused("power(" + f + ", 0) of " + row[0], Due.INDEX, () -> samples(row[0]), x -> x.power(f, 0));
            }
        }
        due.refused("power(16, 16)", Due.INDEX, Desks::busy, x -> x.power(16, 16));
        due.refused("power(16, 17), which is wrong twice", Due.INDEX, Desks::busy, x -> x.power(16, 17));
        due.refused("power(-1, -1), which is wrong twice", Due.INDEX, Desks::busy, x -> x.power(-1, -1));
    }

    private static void frequenciesThatAreNot() {
        due.sentence("Promise 8: IllegalArgumentException: k is not 0..16");
        HearingDesk desk = samples(32);
        due.holds("k 0 is taken", desk.power(0, 0) >= 0.0);
        due.holds("k 16 is taken", desk.power(0, 16) >= 0.0);
        for (int k : new int[] {-1, 17, 32, LEAST, MOST}) {
            due.refused("power(0, " + k + ")", Due.ARGUMENT, () -> samples(32), x -> x.power(0, k));
            due.refused("power(15, " + k + ")", Due.ARGUMENT, Desks::busy, x -> x.power(15, k));
        }
    }

    private static void bands() {
        due.sentence("BANDS 0 to 3 are k 1 to 2, 3 to 4, 5 to 8, 9 to 16: the sum of P, from 0.0 on");
        int[] lowest = {1, 3, 5, 9};
        int[] highest = {2, 4, 8, 16};
        for (int i = 1; i < 32; i++) {
            for (HearingDesk desk : new HearingDesk[] {Desks.pulse(i, 2.0), tone(i)}) {
                for (int b = 0; b < 4; b++) {
                    double sum = 0.0;
                    for (int k = lowest[b]; k <= highest[b]; k++) {
                        sum = sum + desk.power(0, k);
                    }
                    due.same("level(0, " + b + ")", desk.level(0, b), PlainModel.ln(sum > 1e-10 ? sum : 1e-10));
                }
            }
        }
    }

    private static HearingDesk tone(int step) {
        HearingDesk desk = new HearingDesk();
        desk.wave(32, step, 2.0);
        return desk;
    }

    private static void bandsThatAreNot() {
        due.sentence("Promise 9: IllegalArgumentException: b is not 0..3");
        HearingDesk desk = Desks.pulse(11, 2.0);
        for (int b = 0; b <= 3; b++) {
            due.same("level(0, " + b + ")", desk.level(0, b), PlainModel.ln(Desks.bandSum(desk, 0, b)));
        }
        for (int b : new int[] {-1, 4, 5, LEAST, MOST}) {
            due.refused("level(0, " + b + ")", Due.ARGUMENT, () -> samples(48), x -> x.level(0, b));
            due.refused("level(1, " + b + ")", Due.ARGUMENT, () -> samples(48), x -> x.level(1, b));
            due.refused("level(15, " + b + ")", Due.ARGUMENT, Desks::busy, x -> x.level(15, b));
        }
    }

    private static void levelsOfFramesThatAreNot() {
        due.sentence("Promise 9: IndexOutOfBoundsException likewise");
        int[][] frames = {{0, 0}, {31, 0}, {32, 1}, {47, 1}, {48, 2}, {319, 18}, {320, 19}};
        for (int[] row : frames) {
            if (row[1] > 0) {
                HearingDesk desk = samples(row[0]);
                int last = row[1] - 1;
                due.same("level of the last frame", desk.level(last, 1), PlainModel.ln(Desks.bandSum(desk, last, 1)));
            }
            for (int f : new int[] {row[1], row[1] + 1, -1, LEAST, MOST, MOST / 4 + 1, MOST / 16 + 1}) {
                due.refused("level(" + f + ", 0) of " + row[0], Due.INDEX, () -> samples(row[0]), x -> x.level(f, 0));
            }
        }
        due.refused("level(16, 3)", Due.INDEX, Desks::busy, x -> x.level(16, 3));
        due.refused("level(16, 4), which is wrong twice", Due.INDEX, Desks::busy, x -> x.level(16, 4));
        due.refused("level(-1, -1), which is wrong twice", Due.INDEX, Desks::busy, x -> x.level(-1, -1));
        HearingDesk desk = samples(31);
        due.thrown("level(0, 0) of 31", Due.INDEX, () -> desk.level(0, 0));
        desk.wave(1, 0, 1.0);
        due.same("level(0, 0) of 32", desk.level(0, 0), PlainModel.ln(Desks.bandSum(desk, 0, 0)));
        desk.wave(15, 0, 1.0);
        due.thrown("level(1, 0) of 47", Due.INDEX, () -> desk.level(1, 0));
        desk.wave(1, 0, 1.0);
        due.same("level(1, 0) of 48", desk.level(1, 0), PlainModel.ln(Desks.bandSum(desk, 1, 0)));
    }

    /** The level of a frame and a band whose sum is the very double, however it is to be found. */
    private static void levelOfTheVery(double sum, double level) {
        int found = 0;
        for (int i = 1; i < 32 && found < 3; i++) {
            for (int b = 0; b < 4; b++) {
                int at = i;
                int band = b;
                double a = Edge.at(sum, 0.0, 1000.0 + sum, x -> Desks.bandSum(Desks.pulse(at, x), 0, band));
                HearingDesk desk = Desks.pulse(i, a);
                if (Desks.bandSum(desk, 0, b) == sum) {
                    found++;
                    due.same("level(0, " + b + ") of the sum " + sum, desk.level(0, b), level);
                }
                HearingDesk below = Desks.pulse(i, Math.nextDown(a));
                double less = Desks.bandSum(below, 0, b);
                due.same("level(0, " + b + ") below " + sum, below.level(0, b), PlainModel.ln(less));
            }
        }
        due.holds("the sum " + sum + " is found", found > 0);
    }

    private static void oneAndAHalfOrMore() {
        due.sentence("LN x: as long as x is 1.5 or more: x / 2.0, k + 1");
        double seventh = (0.75 - 1.0) / (0.75 + 1.0);
        levelOfTheVery(1.5, 2.0 * seventh * series(seventh * seventh) + 1 * 0.6931471805599453);
        levelOfTheVery(6.0, 2.0 * seventh * series(seventh * seventh) + 3 * 0.6931471805599453);
        levelOfTheVery(1.0, 0.0);
        levelOfTheVery(2.0, 0.6931471805599453);
    }

    private static void belowThreeQuarters() {
        due.sentence("LN x: as long as it is below 0.75: x * 2.0, k - 1");
        double seventh = (0.75 - 1.0) / (0.75 + 1.0);
        levelOfTheVery(0.75, 2.0 * seventh * series(seventh * seventh) + 0 * 0.6931471805599453);
        levelOfTheVery(0.375, 2.0 * seventh * series(seventh * seventh) - 1 * 0.6931471805599453);
        levelOfTheVery(0.5, -0.6931471805599453);
        double below = Math.nextDown(0.75) * 2.0;
        double z = (below - 1.0) / (below + 1.0);
        levelOfTheVery(Math.nextDown(0.75), 2.0 * z * series(z * z) - 1 * 0.6931471805599453);
    }

    private static double series(double y) {
        double s = 0.0;
        for (int j : new int[] {19, 17, 15, 13, 11, 9, 7, 5, 3, 1}) {
            s = s * y + 1.0 / j;
        }
        return s;
    }

    private static void farFromOne() {
        due.sentence("LN x: of the least and the greatest sums");
        for (double a : new double[] {1e-5, 2e-5, 1e75, 1e150, 1e152}) {
            HearingDesk desk = Desks.pulse(11, a);
            for (int b = 0; b < 4; b++) {
                double sum = Desks.bandSum(desk, 0, b);
                due.same("level(0, " + b + ") of " + a, desk.level(0, b), PlainModel.ln(sum > 1e-10 ? sum : 1e-10));
                due.near("level(0, " + b + ") of " + a, desk.level(0, b), Math.log(sum > 1e-10 ? sum : 1e-10), 1e-9);
            }
        }
    }

    private static void notAboveTheFloor() {
        due.sentence("LEVEL(f, b): LN of that, or of 0.0000000001 if that is not above it");
        double floor = -23.025850929940454;
        for (int b = 0; b < 4; b++) {
            int band = b;
            double a = Edge.at(1e-10, 0.0, 1.0, x -> Desks.bandSum(Desks.pulse(9, x), 0, band));
            due.same("level at the floor", Desks.pulse(9, a).level(0, b), floor);
            for (double below : new double[] {0.0, Double.MIN_VALUE, a / 1e100, a / 2.0, 0.999 * a, 0.99999998 * a,
                Math.nextDown(a)}) {
                due.same("level(0, " + b + ") below the floor", Desks.pulse(9, below).level(0, b), floor);
                due.same("level(0, " + b + ") below the floor", Desks.pulse(9, -below).level(0, b), floor);
            }
            for (double above : new double[] {1.00000002 * a, 1.001 * a, 2.0 * a}) {
                HearingDesk desk = Desks.pulse(9, above);
                double sum = Desks.bandSum(desk, 0, b);
                due.same("level(0, " + b + ") above the floor", desk.level(0, b), PlainModel.ln(sum));
                due.holds("it is above the floor", desk.level(0, b) > floor);
            }
        }
        HearingDesk one = Desks.pulse(9, 1e-5);
        due.holds("each band has the floor for itself", one.level(0, 3) > floor && one.level(0, 0) == floor);
        HearingDesk silent = Desks.silence(new HearingDesk(), 320);
        for (int f : new int[] {0, 18}) {
            for (int b = 0; b < 4; b++) {
                due.same("level(" + f + ", " + b + ") of silence", silent.level(f, b), floor);
            }
        }
    }
}
