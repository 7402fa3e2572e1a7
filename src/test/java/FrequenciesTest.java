/** Promises 8 (power) and 9 (level). */
public final class FrequenciesTest {
    private static final Due due = new Due();

    public static void main(String[] args) {
        pureTones();
        powersAreThoseOfATransform();
        levelsAreLogarithms();
        exactAnswers();
        due.end();
    }

    /** Under this window a tone of step k has (a * 32 / 4)^2 at k and a quarter of that on both sides. */
    private static void pureTones() {
        for (int k = 2; k <= 14; k++) {
            HearingDesk desk = new HearingDesk();
            desk.wave(64, k, 2.0);
            for (int f = 0; f < 3; f++) {
                due.near("power(" + f + ", " + k + ")", desk.power(f, k), 256.0, 1e-9);
                due.near("power at k - 1", desk.power(f, k - 1), 64.0, 1e-9);
                due.near("power at k + 1", desk.power(f, k + 1), 64.0, 1e-9);
                due.near("power far off", desk.power(f, (k + 6) % 17), 0.0, 1e-9);
            }
        }
    }

    private static void powersAreThoseOfATransform() {
        HearingDesk desk = mixed();
        double[] samples = new double[desk.count(1)];
        for (int i = 0; i < samples.length; i++) {
            samples[i] = desk.sample(i);
        }
        for (int f = 0; f < 7; f++) {
            for (int k = 0; k <= 16; k++) {
                double re = 0.0;
                double im = 0.0;
                for (int i = 0; i < 32; i++) {
                    double v = samples[16 * f + i] * (0.5 - 0.5 * Math.cos(Math.PI / 16 * i));
                    re += v * Math.cos(Math.PI / 16 * i * k);
                    im -= v * Math.sin(Math.PI / 16 * i * k);
                }
                due.near("power(" + f + ", " + k + ")", desk.power(f, k), re * re + im * im, 1e-9);
            }
        }
    }

    private static HearingDesk mixed() {
        HearingDesk desk = new HearingDesk();
        desk.wave(41, 3, 1.5);
        desk.wave(7, 31, -2.0);
        desk.wave(64, 11, 0.125);
        desk.wave(30, 0, 3.0);
        desk.wave(1, 0, 9.0);
        return desk;
    }

    private static void levelsAreLogarithms() {
        for (double a : new double[] {1e-5, 0.001, 0.3, 1.0, 1.2, 7.0, 1e6, 1e70, 1e150}) {
            HearingDesk desk = new HearingDesk();
            desk.wave(21, 3, a);
            desk.wave(23, 9, a);
            for (int b = 0; b < 4; b++) {
                double sum = Desks.bandSum(desk, 0, b);
                due.near("level(0, " + b + ") of " + a, desk.level(0, b), Math.log(sum), 1e-11);
                due.same("LN as written", desk.level(0, b), PlainModel.ln(sum));
            }
        }
    }

    private static void exactAnswers() {
        HearingDesk desk = new HearingDesk();
        desk.wave(64, 4, 8.0);
        due.same("power(0, 4)", desk.power(0, 4), 4095.999999999902);
        due.same("power(0, 5)", desk.power(0, 5), 1023.9999999999727);
        due.same("level(0, 1)", desk.level(0, 1), 8.540909718033529);
        HearingDesk mixed = mixed();
        PlainModel model = new PlainModel();
        model.wave(41, 3, 1.5);
        model.wave(7, 31, -2.0);
        model.wave(64, 11, 0.125);
        model.wave(30, 0, 3.0);
        model.wave(1, 0, 9.0);
        for (int f = mixed.count(2) - 1; f >= 0; f--) {
            for (int k = 0; k <= 16; k++) {
                due.same("power(" + f + ", " + k + ")", mixed.power(f, k), model.power(f, k));
                due.same("level(" + f + ", " + k % 4 + ")", mixed.level(f, k % 4), model.level(f, k % 4));
            }
        }
    }
}
