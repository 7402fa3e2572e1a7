/** Promises 5 (wave), 6 (clear) and 7 (sample). */
public final class SamplesTest {
    private static final Due due = new Due();

    public static void main(String[] args) {
        wavesAreCosines();
        cleared();
        numbersWithoutEnd();
        due.end();
    }

    private static void wavesAreCosines() {
        for (int step = 0; step < 32; step++) {
            HearingDesk desk = new HearingDesk();
            due.same("wave(64, " + step + ", -3.0)", desk.wave(64, step, -3.0), 64);
            for (int i = 0; i < 64; i++) {
                due.near("sample(" + i + ")", desk.sample(i), -3.0 * Math.cos(Math.PI / 16 * step * i), 1e-12);
            }
        }
    }

    private static void cleared() {
        HearingDesk desk = new HearingDesk();
        due.same("clear() of a new one", desk.clear(), 0);
        desk.octets(3, 1L);
        desk.wave(64, 4, 8.0);
        double before = desk.level(1, 1);
        desk.learn(97, 0, 2);
        due.same("hear()", desk.hear(), 1);
        desk.wave(1, 1, 1.0);
        due.same("WORDS stay when samples come", desk.count(5), 1);
        due.same("clear()", desk.clear(), 65);
        due.same("clear() again", desk.clear(), 0);
        int[] left = {3, 0, 0, 8000, 1, 0, 0};
        for (int what = 0; what < left.length; what++) {
            due.same("count(" + what + ") after clear()", desk.count(what), left[what]);
        }
        due.thrown("word(0, 0) after clear()", Due.ELEMENT, () -> desk.word(0, 0));
        due.thrown("hear() after clear()", Due.STATE, desk::hear);
        desk.wave(64, 5, 2.0);
        HearingDesk other = new HearingDesk();
        other.wave(64, 5, 2.0);
        due.same("level(1, 1) is that of the new samples", desk.level(1, 1), other.level(1, 1));
        due.same("level(1, 1) has changed", before == desk.level(1, 1) ? 1 : 0, 0);
    }

    /** The document bounds no wave: every call must end, and throw nothing that is not said. */
    private static void numbersWithoutEnd() {
        double[] all = {Double.POSITIVE_INFINITY, Double.NEGATIVE_INFINITY, Double.NaN, Double.MAX_VALUE,
            -Double.MAX_VALUE, 1e200, 1e154, Double.MIN_VALUE};
        for (double a : all) {
            HearingDesk desk = new HearingDesk();
            due.same("wave(64, 1, " + a + ")", desk.wave(64, 1, a), 64);
            due.same("sample(0) of " + a, desk.sample(0), a);
            due.same("sample(16) of " + a, desk.sample(16), a * PlainModel.c(16));
            due.same("sample(8) of " + a + " is 0.0", a == a ? desk.sample(8) + 0.0 : 0.0, 0.0);
            desk.wave(64, 0, 1.0);
            desk.learn(97, 0, 3);
            for (int f = 0; f < desk.count(2); f++) {
                for (int b = 0; b < 4; b++) {
                    due.near("level of " + a, desk.level(f, b), 0.0, 710.0);
                }
                for (int k = 0; k <= 16; k++) {
                    due.same("power of " + a + " is at least 0.0", desk.power(f, k) >= 0.0 ? 1 : 0, 1);
                }
            }
            desk.hear();
            due.same("WARP of the same", desk.warp(0, 0), 0.0);
        }
    }
}
