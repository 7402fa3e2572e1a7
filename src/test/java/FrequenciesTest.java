/** Promises 8 (power) and 9 (level). */
public final class FrequenciesTest {
    private static final Due due = new Due();
    private static final int[] LOWEST = {1, 3, 5, 9, 17};

    public static void main(String[] args) {
        pureTones();
        powersAreThoseOfATransform();
        levelsAreLogarithms();
        silence();
        edgesOfTheLogarithm();
        exactAnswers();
        refused();
        due.end();
    }

    /** Under this window a tone of step k has (a * 32 / 4)^2 at k and a quarter of that on both sides. */
    private static void pureTones() {
        for (int k = 2; k <= 14; k++) {
            HearingDesk desk = new HearingDesk();
            desk.wave(64, k, 2.0);
            for (int f = 0; f < 3; f++) {
                due.near("power(" + f + ", " + k + ")", desk.power(f, k), 256.0, 1e-9);
                due.near("power at k - 1", desk.power(f, k - 1), 64.0, 1e-9);
                due.near("power at k + 1", desk.power(f, k + 1), 64.0, 1e-9);
                due.near("power far off", desk.power(f, (k + 6) % 17), 0.0, 1e-9);
            }
        }
    }

    private static void powersAreThoseOfATransform() {
        HearingDesk desk = mixed();
        for (int f = 0; f < desk.count(2); f++) {
            for (int k = 0; k <= 16; k++) {
                double re = 0.0;
                double im = 0.0;
                for (int i = 0; i < 32; i++) {
                    double v = desk.sample(16 * f + i) * (0.5 - 0.5 * Math.cos(Math.PI / 16 * i));
                    re += v * Math.cos(Math.PI / 16 * i * k);
                    im -= v * Math.sin(Math.PI / 16 * i * k);
                }
                due.near("power(" + f + ", " + k + ")", desk.power(f, k), re * re + im * im, 1e-9);
            }
        }
    }

    private static HearingDesk mixed() {
        HearingDesk desk = new HearingDesk();
        desk.wave(41, 3, 1.5);
        desk.wave(7, 31, -2.0);
        desk.wave(64, 11, 0.125);
        desk.wave(30, 0, 3.0);
        desk.wave(1, 0, 9.0);
        return desk;
    }

    private static void levelsAreLogarithms() {
        for (double a : new double[] {1e-5, 0.001, 0.3, 1.0, 1.2, 7.0, 1e6, 1e70, 1e150}) {
            HearingDesk desk = new HearingDesk();
            desk.wave(21, 3, a);
            desk.wave(23, 9, a);
            for (int b = 0; b < 4; b++) {
                double sum = 0.0;
                for (int k = LOWEST[b]; k < LOWEST[b + 1]; k++) {
                    sum += desk.power(0, k);
                }
                due.near("level(0, " + b + ") of " + a, desk.level(0, b), Math.log(sum), 1e-11);
                due.same("LN as written", desk.level(0, b), PlainModel.ln(sum));
            }
        }
    }

    private static void silence() {
        HearingDesk desk = new HearingDesk();
        desk.wave(48, 5, 0.0);
        for (int b = 0; b < 4; b++) {
            due.same("level(1, " + b + ") of silence", desk.level(1, b), -23.025850929940454);
        }
        due.same("power(1, 5) of silence", desk.power(1, 5), 0.0);
    }

    /** Around the floor, and where LN begins to halve or to double. */
    private static void edgesOfTheLogarithm() {
        double floor = PlainModel.ln(1e-10);
        for (double bound : new double[] {Math.nextUp(1e-10), 0.75, 1.5, 3.0, 0.375}) {
            double a = Edge.at(bound, 1e-7, 10.0, x -> bandTwo(tone(x)));
            for (double x : new double[] {a, Math.nextDown(a), Math.nextUp(a), 1.00000002 * a, 0.999 * a, 1.001 * a}) {
                HearingDesk desk = tone(x);
                double sum = bandTwo(desk);
                due.same("level(0, 2) of " + x, desk.level(0, 2), sum > 1e-10 ? PlainModel.ln(sum) : floor);
            }
        }
    }

    private static HearingDesk tone(double a) {
        HearingDesk desk = new HearingDesk();
        desk.wave(32, 6, a);
        return desk;
    }

    private static double bandTwo(HearingDesk desk) {
        return 0.0 + desk.power(0, 5) + desk.power(0, 6) + desk.power(0, 7) + desk.power(0, 8);
    }

    private static void exactAnswers() {
        HearingDesk desk = new HearingDesk();
        desk.wave(64, 4, 8.0);
        due.same("power(0, 4)", desk.power(0, 4), 4095.999999999902);
        due.same("power(0, 5)", desk.power(0, 5), 1023.9999999999727);
        due.same("level(0, 1)", desk.level(0, 1), 8.540909718033529);
        HearingDesk mixed = mixed();
        PlainModel model = new PlainModel();
        model.wave(41, 3, 1.5);
        model.wave(7, 31, -2.0);
        model.wave(64, 11, 0.125);
        model.wave(30, 0, 3.0);
        model.wave(1, 0, 9.0);
        for (int f = mixed.count(2) - 1; f >= 0; f--) {
            for (int k = 0; k <= 16; k++) {
                due.same("power(" + f + ", " + k + ")", mixed.power(f, k), model.power(f, k));
                due.same("level(" + f + ", " + k % 4 + ")", mixed.level(f, k % 4), model.level(f, k % 4));
            }
        }
    }

    private static void refused() {
        HearingDesk desk = new HearingDesk();
        desk.wave(31, 1, 1.0);
        due.thrown("power(0, 0) of 31 samples", Due.INDEX, () -> desk.power(0, 0));
        due.thrown("level(0, 0) of 31 samples", Due.INDEX, () -> desk.level(0, 0));
        desk.wave(1, 1, 1.0);
        desk.power(0, 0);
        desk.level(0, 0);
        desk.wave(15, 1, 1.0);
        for (int f : new int[] {1, 2, -1, Integer.MIN_VALUE, Integer.MAX_VALUE}) {
            due.thrown("power(" + f + ", 16)", Due.INDEX, () -> desk.power(f, 16));
            due.thrown("power(" + f + ", 17)", Due.INDEX, () -> desk.power(f, 17));
            due.thrown("level(" + f + ", 3)", Due.INDEX, () -> desk.level(f, 3));
            due.thrown("level(" + f + ", 4)", Due.INDEX, () -> desk.level(f, 4));
        }
        desk.wave(1, 1, 1.0);
        desk.power(1, 16);
        desk.level(1, 3);
        for (int wrong : new int[] {-1, 17, 32, Integer.MIN_VALUE, Integer.MAX_VALUE}) {
            due.thrown("power(1, " + wrong + ")", Due.ARGUMENT, () -> desk.power(1, wrong));
            due.thrown("level(1, " + wrong + ")", Due.ARGUMENT, () -> desk.level(1, wrong));
        }
        due.thrown("level(1, 4)", Due.ARGUMENT, () -> desk.level(1, 4));
        for (int i = 0; i < 4; i++) {
            desk.wave(64, 1, 1.0);
        }
        desk.wave(16, 1, 1.0);
        desk.power(18, 16);
        due.thrown("power(19, 0) of 320 samples", Due.INDEX, () -> desk.power(19, 0));
        due.thrown("level(19, 0) of 320 samples", Due.INDEX, () -> desk.level(19, 0));
    }
}
