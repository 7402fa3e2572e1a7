/** Promises 5 (wave), 6 (clear) and 7 (sample). */
public final class SamplesTest {
    private static final Due due = new Due();

    public static void main(String[] args) {
        wavesAreCosines();
        wavesAreExact();
        wavesRefused();
        cleared();
        samplesRefused();
        numbersWithoutEnd();
        due.end();
    }

    private static void wavesAreCosines() {
        for (int step = 0; step < 32; step++) {
            HearingDesk desk = new HearingDesk();
            due.same("wave(64, " + step + ", -3.0)", desk.wave(64, step, -3.0), 64);
            for (int i = 0; i < 64; i++) {
                due.near("sample(" + i + ")", desk.sample(i), -3.0 * Math.cos(Math.PI / 16 * step * i), 1e-12);
            }
        }
    }

    private static void wavesAreExact() {
        HearingDesk desk = new HearingDesk();
        desk.wave(32, 1, 1.0);
        for (int n = 0; n < 32; n++) {
            due.same("C(" + n + ")", desk.sample(n), PlainModel.c(n));
        }
        due.same("C(0)", desk.sample(0), 1.0);
        due.same("C(8)", desk.sample(8), 0.0);
        due.same("C(16)", desk.sample(16), -0.9999999999999791);
        due.same("C(17)", desk.sample(17), -0.9807852804032264);
        due.same("wave(1, 31, 7.5)", desk.wave(1, 31, 7.5), 33);
        due.same("a new wave begins with C(0)", desk.sample(32), 7.5);
        due.same("wave(2, 0, -0.25)", desk.wave(2, 0, -0.25), 35);
        due.same("a wave of step 0", desk.sample(34), -0.25);
    }

    private static void wavesRefused() {
        HearingDesk desk = new HearingDesk();
        for (int n : new int[] {0, 65, -1, Integer.MIN_VALUE, Integer.MAX_VALUE}) {
            due.thrown("wave(" + n + ", 0, 1.0)", Due.ARGUMENT, () -> desk.wave(n, 0, 1.0));
        }
        for (int step : new int[] {-1, 32, Integer.MIN_VALUE, Integer.MAX_VALUE}) {
            due.thrown("wave(1, " + step + ", 1.0)", Due.ARGUMENT, () -> desk.wave(1, step, 1.0));
        }
        due.same("count(1) after refusals", desk.count(1), 0);
        for (int i = 0; i < 4; i++) {
            desk.wave(64, 0, 1.0);
        }
        desk.wave(60, 0, 1.0);
        due.thrown("wave(5, 0, 1.0) at 316", Due.INDEX, () -> desk.wave(5, 0, 1.0));
        due.same("count(1)", desk.count(1), 316);
        due.same("wave(4, 0, 1.0) at 316", desk.wave(4, 0, 1.0), 320);
        due.thrown("wave(1, 0, 1.0) at 320", Due.INDEX, () -> desk.wave(1, 0, 1.0));
        due.thrown("wave(0, 0, 1.0) at 320", Due.ARGUMENT, () -> desk.wave(0, 0, 1.0));
        due.thrown("wave(1, 32, 1.0) at 320", Due.ARGUMENT, () -> desk.wave(1, 32, 1.0));
    }

    private static void cleared() {
        HearingDesk desk = new HearingDesk();
        due.same("clear() of a new one", desk.clear(), 0);
        desk.octets(3, 1L);
        desk.wave(64, 4, 8.0);
        double before = desk.level(1, 1);
        desk.learn(97, 0, 2);
        due.same("hear()", desk.hear(), 1);
        desk.wave(1, 1, 1.0);
        due.same("WORDS stay when samples come", desk.count(5), 1);
        due.same("clear()", desk.clear(), 65);
        due.same("clear() again", desk.clear(), 0);
        int[] left = {3, 0, 0, 8000, 1, 0, 0};
        for (int what = 0; what < left.length; what++) {
            due.same("count(" + what + ") after clear()", desk.count(what), left[what]);
        }
        due.thrown("word(0, 0) after clear()", Due.ELEMENT, () -> desk.word(0, 0));
        due.thrown("hear() after clear()", Due.STATE, desk::hear);
        desk.wave(64, 5, 2.0);
        HearingDesk other = new HearingDesk();
        other.wave(64, 5, 2.0);
        due.same("level(1, 1) is that of the new samples", desk.level(1, 1), other.level(1, 1));
        due.same("level(1, 1) has changed", before == desk.level(1, 1) ? 1 : 0, 0);
    }

    private static void samplesRefused() {
        HearingDesk desk = new HearingDesk();
        due.thrown("sample(0) of a new one", Due.INDEX, () -> desk.sample(0));
        for (int i = 0; i < 5; i++) {
            desk.wave(64, 1, 1.0);
        }
        due.same("sample(319)", desk.sample(319), PlainModel.c(63 % 32));
        for (int i : new int[] {-1, 320, 321, Integer.MIN_VALUE, Integer.MAX_VALUE}) {
            due.thrown("sample(" + i + ")", Due.INDEX, () -> desk.sample(i));
        }
        desk.clear();
        due.thrown("sample(0) after clear()", Due.INDEX, () -> desk.sample(0));
    }

    /** The document bounds no wave: every call must end, and throw nothing that is not said. */
    private static void numbersWithoutEnd() {
        double[] all = {Double.POSITIVE_INFINITY, Double.NEGATIVE_INFINITY, Double.NaN, Double.MAX_VALUE,
            -Double.MAX_VALUE, 1e200, 1e154, Double.MIN_VALUE};
        for (double a : all) {
            HearingDesk desk = new HearingDesk();
            due.same("wave(64, 1, " + a + ")", desk.wave(64, 1, a), 64);
            due.same("sample(0) of " + a, desk.sample(0), a);
            due.same("sample(16) of " + a, desk.sample(16), a * PlainModel.c(16));
            due.same("sample(8) of " + a + " is 0.0", a == a ? desk.sample(8) + 0.0 : 0.0, 0.0);
            desk.wave(64, 0, 1.0);
            desk.learn(97, 0, 3);
            for (int f = 0; f < desk.count(2); f++) {
                for (int b = 0; b < 4; b++) {
                    due.near("level of " + a, desk.level(f, b), 0.0, 710.0);
                }
                for (int k = 0; k <= 16; k++) {
                    due.same("power of " + a + " is at least 0.0", desk.power(f, k) >= 0.0 ? 1 : 0, 1);
                }
            }
            desk.hear();
            due.same("WARP of the same", desk.warp(0, 0), 0.0);
        }
    }
}
