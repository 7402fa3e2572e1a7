/**
 * The boundary cases of C and SAMPLES, of the 512 calls that an object has, and of promises 1 (a new object), 5 (wave),
 * 6 (clear), 7 (sample) and 17 (count).
 */
public final class SampleEdgesTest {
    private static final int LEAST = Integer.MIN_VALUE;
    private static final int MOST = Integer.MAX_VALUE;
    private static final Due due = new Due();

    public static void main(String[] args) {
        lastCall();
        newObject();
        newObjectRefuses();
        seventeenOn();
        lengthOfAWave();
        stepOfAWave();
        moduloThirtyTwo();
        everyWaveBeginsAnew();
        sizeOfAWave();
        moreThan320();
        cleared();
        clearedOfNothing();
        clearedOfAll();
        samplesThatAreThere();
        samplesThatAreNot();
        whatIsCounted();
        emptyAndFullCounts();
        framesCounted();
        loudFramesCounted();
        due.end();
    }

    private static void lastCall() {
        due.sentence("An object is used for at most 512 calls after it has been made");
        HearingDesk desk = new HearingDesk();
        for (int i = 1; i <= 320; i++) {
            due.same("wave(1, 0, " + i + ".0)", desk.wave(1, 0, i), i);
        }
        for (int i = 321; i < 512; i++) {
            due.same("sample(" + (i - 321) + ")", desk.sample(i - 321), i - 320.0);
        }
        due.same("the 512th call", desk.clear(), 320);
        HearingDesk other = Desks.tone(1.0);
        for (int i = 0; i < 255; i++) {
            due.same("learn(97, 0, 1)", other.learn(97, 0, 1), 1);
            due.same("forget(0)", other.forget(0), 97);
        }
        due.same("the 512th call", other.hear(), 1);
    }

    private static void newObject() {
        due.sentence("Promise 1: no OCTETS, SAMPLES, PATTERNS, WORDS; RATE 8000");
        HearingDesk desk = new HearingDesk();
        int[] counts = {0, 0, 0, 8000, 0, 0, 0};
        for (int what = 0; what <= 6; what++) {
            due.same("count(" + what + ")", desk.count(what), counts[what]);
        }
        due.same("place()", desk.place(), -1);
        due.same("octets(1, 0)", new HearingDesk().octets(1, 0L), 1);
        due.same("wave(1, 0, 1.0)", new HearingDesk().wave(1, 0, 1.0), 1);
        HearingDesk first = Desks.frames("#");
        due.same("learn(97, 0, 1)", first.learn(97, 0, 1), 1);
        due.same("hear()", first.hear(), 1);
        due.same("word(0, 5) by RATE 8000", first.word(0, 5), 4);
    }

    private static void newObjectRefuses() {
        due.sentence("Promise 1: what is asked of what a new object has none of is refused");
        due.refused("sample(0)", Due.INDEX, HearingDesk::new, x -> x.sample(0));
        due.refused("power(0, 0)", Due.INDEX, HearingDesk::new, x -> x.power(0, 0));
        due.refused("level(0, 0)", Due.INDEX, HearingDesk::new, x -> x.level(0, 0));
        due.refused("learn(97, 0, 1)", Due.INDEX, HearingDesk::new, x -> x.learn(97, 0, 1));
        due.refused("forget(0)", Due.ELEMENT, HearingDesk::new, x -> x.forget(0));
        due.refused("warp(0, 0)", Due.ELEMENT, HearingDesk::new, x -> x.warp(0, 0));
        due.refused("hear()", Due.STATE, HearingDesk::new, x -> x.hear());
        due.refused("word(0, 0)", Due.ELEMENT, HearingDesk::new, x -> x.word(0, 0));
        due.refused("cost(0)", Due.ELEMENT, HearingDesk::new, x -> x.cost(0));
        HearingDesk desk = new HearingDesk();
        due.thrown("read()", Due.ARGUMENT, desk::read);
        due.same("place() after it", desk.place(), 0);
        due.texts("after read()", Answers.butTheFile(desk), Answers.butTheFile(new HearingDesk()));
    }

    private static void seventeenOn() {
        due.sentence("A(n) for n 0 to 31 is (n, from 17 on n - 32) * (6.283185307179586 / 32.0)");
        HearingDesk desk = new HearingDesk();
        desk.wave(32, 1, 1.0);
        for (int n = 0; n < 32; n++) {
            due.same("C(" + n + ")", desk.sample(n), PlainModel.c(n));
            due.near("C(" + n + ")", desk.sample(n), Math.cos(n * Math.PI / 16), 3e-14);
        }
        due.same("C(0)", desk.sample(0), 1.0);
        due.same("C(16), of 16", desk.sample(16), -0.9999999999999791);
        due.same("C(17), of -15", desk.sample(17), desk.sample(15));
        due.same("C(31), of -1", desk.sample(31), desk.sample(1));
    }

    private static void lengthOfAWave() {
        due.sentence("Promise 5: n (1..64) SAMPLES more; IllegalArgumentException: n");
        for (int n : new int[] {1, 2, 63, 64}) {
            HearingDesk desk = new HearingDesk();
            due.same("wave(" + n + ", 1, 1.0)", desk.wave(n, 1, 1.0), n);
            due.same("count(1)", desk.count(1), n);
            due.same("the last sample", desk.sample(n - 1), PlainModel.c((n - 1) % 32));
            due.thrown("the one behind it", Due.INDEX, () -> desk.sample(n));
            due.same("wave(" + n + ", 1, 1.0) again", desk.wave(n, 1, 1.0), 2 * n);
        }
        for (int n : new int[] {0, 65, -1, -64, 320, LEAST, MOST}) {
            due.refused("wave(" + n + ", 1, 1.0)", Due.ARGUMENT, HearingDesk::new, x -> x.wave(n, 1, 1.0));
            due.refused("wave(" + n + ", 1, 1.0)", Due.ARGUMENT, Desks::busy, x -> x.wave(n, 1, 1.0));
            due.refused("wave(" + n + ", 1, 1.0) at 320", Due.ARGUMENT, Desks::tones, x -> x.wave(n, 1, 1.0));
        }
    }

    private static void stepOfAWave() {
        due.sentence("Promise 5: IllegalArgumentException: step is not 0..31");
        for (int step : new int[] {0, 1, 30, 31}) {
            HearingDesk desk = new HearingDesk();
            due.same("wave(2, " + step + ", 1.0)", desk.wave(2, step, 1.0), 2);
            due.same("sample(0)", desk.sample(0), 1.0);
            due.same("sample(1)", desk.sample(1), PlainModel.c(step));
        }
        for (int step : new int[] {-1, 32, -32, 64, LEAST, MOST}) {
            due.refused("wave(1, " + step + ", 1.0)", Due.ARGUMENT, HearingDesk::new, x -> x.wave(1, step, 1.0));
            due.refused("wave(1, " + step + ", 1.0)", Due.ARGUMENT, Desks::busy, x -> x.wave(1, step, 1.0));
            due.refused("wave(1, " + step + ", 1.0) at 320", Due.ARGUMENT, Desks::tones, x -> x.wave(1, step, 1.0));
        }
    }

    private static void moduloThirtyTwo() {
        due.sentence("Promise 5: a * C(i * step modulo 32) for i 0, 1, ..");
        for (int step = 0; step < 32; step++) {
            HearingDesk desk = new HearingDesk();
            desk.wave(64, step, 3.0);
            int n = 0;
            for (int i = 0; i < 64; i++) {
                due.same("sample(" + i + ") at step " + step, desk.sample(i), 3.0 * PlainModel.c(n));
                n = n + step >= 32 ? n + step - 32 : n + step;
            }
        }
    }

    private static void everyWaveBeginsAnew() {
        due.sentence("Promise 5: SAMPLES more: for i 0, 1, ..");
        HearingDesk desk = new HearingDesk();
        desk.wave(5, 3, 2.0);
        desk.wave(3, 7, -4.0);
        double[] samples = {2.0, 2.0 * PlainModel.c(3), 2.0 * PlainModel.c(6), 2.0 * PlainModel.c(9),
            2.0 * PlainModel.c(12), -4.0, -4.0 * PlainModel.c(7), -4.0 * PlainModel.c(14)};
        for (int i = 0; i < samples.length; i++) {
            due.same("sample(" + i + ")", desk.sample(i), samples[i]);
        }
        HearingDesk heard = Desks.frames("#");
        heard.hear();
        heard.wave(1, 0, 1.0);
        due.same("WORDS stay when SAMPLES come", heard.count(5), 1);
    }

    private static void sizeOfAWave() {
        due.sentence("Promise 5: a is any double");
        for (double a : new double[] {0.0, -1.0, 1e-300, Double.MIN_VALUE, 1e154, 1e200, Double.MAX_VALUE,
            -Double.MAX_VALUE}) {
            HearingDesk desk = new HearingDesk();
            due.same("wave(64, 1, " + a + ")", desk.wave(64, 1, a), 64);
            for (int i : new int[] {0, 1, 16, 17, 63}) {
                due.same("sample(" + i + ") of " + a, desk.sample(i), a * PlainModel.c(i % 32));
            }
        }
    }

    private static void moreThan320() {
        due.sentence("SAMPLES: a row of up to 320; Promise 5: IndexOutOfBoundsException: there would be more than 320");
        for (int n : new int[] {1, 2, 16, 63, 64}) {
            HearingDesk desk = Desks.silence(new HearingDesk(), 320 - n);
            due.same("wave(" + n + ", 1, 2.0) at " + (320 - n), desk.wave(n, 1, 2.0), 320);
            due.same("count(1)", desk.count(1), 320);
            due.same("sample(319)", desk.sample(319), 2.0 * PlainModel.c((n - 1) % 32));
            due.refused("wave(" + n + ", 1, 2.0) at " + (321 - n), Due.INDEX,
                () -> Desks.silence(new HearingDesk(), 321 - n), x -> x.wave(n, 1, 2.0));
            due.refused("wave(" + n + ", 1, 2.0) at 320", Due.INDEX, Desks::tones, x -> x.wave(n, 1, 2.0));
        }
        HearingDesk desk = Desks.silence(new HearingDesk(), 319);
        due.thrown("wave(2, 0, 1.0) at 319", Due.INDEX, () -> desk.wave(2, 0, 1.0));
        due.same("count(1) after it", desk.count(1), 319);
        due.same("wave(1, 0, 1.0) at 319", desk.wave(1, 0, 1.0), 320);
    }

    private static void cleared() {
        due.sentence("Promise 6: no SAMPLES and WORDS: how many SAMPLES there were");
        HearingDesk desk = Desks.busy();
        due.same("clear()", desk.clear(), 272);
        int[] left = {56, 0, 0, 11025, 3, 0, 0};
        for (int what = 0; what <= 6; what++) {
            due.same("count(" + what + ") after clear()", desk.count(what), left[what]);
        }
        due.same("place() after clear()", desk.place(), 3);
        due.thrown("sample(0) after clear()", Due.INDEX, () -> desk.sample(0));
        due.thrown("power(0, 0) after clear()", Due.INDEX, () -> desk.power(0, 0));
        due.thrown("level(0, 0) after clear()", Due.INDEX, () -> desk.level(0, 0));
        due.thrown("word(0, 0) after clear()", Due.ELEMENT, () -> desk.word(0, 0));
        due.thrown("cost(0) after clear()", Due.ELEMENT, () -> desk.cost(0));
        due.thrown("hear() after clear()", Due.STATE, desk::hear);
        desk.wave(32, 5, 2.0);
        HearingDesk other = new HearingDesk();
        other.wave(32, 5, 2.0);
        for (int b = 0; b < 4; b++) {
            due.same("level(0, " + b + ") is that of the new samples", desk.level(0, b), other.level(0, b));
        }
        due.same("the FILE stays", desk.read(), 3);
    }

    private static void clearedOfNothing() {
        due.sentence("Promise 6: of no SAMPLES");
        HearingDesk desk = new HearingDesk();
        due.same("clear() of a new one", desk.clear(), 0);
        due.same("clear() again", desk.clear(), 0);
        due.texts("after it", Answers.of(desk), Answers.of(new HearingDesk()));
    }

    private static void clearedOfAll() {
        due.sentence("Promise 6: of all 320 SAMPLES");
        HearingDesk desk = Desks.tones();
        due.same("hear()", desk.hear(), 2);
        due.same("clear() of 320", desk.clear(), 320);
        due.same("WORDS", desk.count(5), 0);
        due.same("wave(64, 1, 1.0)", desk.wave(64, 1, 1.0), 64);
        due.same("clear() of 64", desk.clear(), 64);
        due.same("clear() of none", desk.clear(), 0);
    }

    private static void samplesThatAreThere() {
        due.sentence("Promise 7: SAMPLE i");
        HearingDesk desk = new HearingDesk();
        for (int i = 0; i < 320; i += 64) {
            desk.wave(64, 1, 1.0 + i);
        }
        for (int i : new int[] {0, 1, 31, 32, 63, 64, 127, 128, 255, 256, 318, 319}) {
            due.same("sample(" + i + ")", desk.sample(i), (1.0 + i / 64 * 64) * PlainModel.c(i % 32));
        }
    }

    private static void samplesThatAreNot() {
        due.sentence("Promise 7: IndexOutOfBoundsException: there is none");
        for (int i : new int[] {-1, 320, 321, LEAST, MOST}) {
            due.refused("sample(" + i + ") of 320", Due.INDEX, Desks::tones, x -> x.sample(i));
            due.refused("sample(" + i + ") of 272", Due.INDEX, Desks::busy, x -> x.sample(i));
            due.refused("sample(" + i + ") of none", Due.INDEX, HearingDesk::new, x -> x.sample(i));
        }
        due.refused("sample(272) of 272", Due.INDEX, Desks::busy, x -> x.sample(272));
        due.same("sample(271) of 272", Desks.busy().sample(271), 0.0);
        HearingDesk desk = new HearingDesk();
        due.thrown("sample(0) of none", Due.INDEX, () -> desk.sample(0));
        desk.wave(1, 0, 0.5);
        due.same("sample(0) of one", desk.sample(0), 0.5);
        due.thrown("sample(1) of one", Due.INDEX, () -> desk.sample(1));
    }

    private static void whatIsCounted() {
        due.sentence("Promise 17: what 0 to 6; IllegalArgumentException for others");
        int[] counts = {56, 272, 16, 11025, 3, 4, 5};
        HearingDesk desk = Desks.busy();
        for (int what = 0; what <= 6; what++) {
            due.same("count(" + what + ")", desk.count(what), counts[what]);
        }
        for (int what : new int[] {-1, 7, 8, LEAST, MOST}) {
            due.refused("count(" + what + ")", Due.ARGUMENT, HearingDesk::new, x -> x.count(what));
            due.refused("count(" + what + ")", Due.ARGUMENT, Desks::busy, x -> x.count(what));
        }
    }

    private static void emptyAndFullCounts() {
        due.sentence("Promise 17: of an object in which nothing more has room");
        HearingDesk desk = Desks.tones();
        Wav.pour(desk, new int[400]);
        for (int k = 0; k < 6; k++) {
            desk.learn(97, k, 8);
        }
        desk.hear();
        int[] counts = {400, 320, 19, 8000, 6, 2, 19};
        for (int what = 0; what <= 6; what++) {
            due.same("count(" + what + ")", desk.count(what), counts[what]);
        }
    }

    private static void framesCounted() {
        due.sentence("FRAMES: the f-th is of SAMPLES 16 f to 16 f + 31, as long as all are there");
        int[][] counted = {{0, 0}, {1, 0}, {15, 0}, {16, 0}, {31, 0}, {32, 1}, {33, 1}, {47, 1}, {48, 2}, {63, 2},
            {64, 3}, {303, 17}, {304, 18}, {319, 18}, {320, 19}};
        for (int[] row : counted) {
            HearingDesk desk = Desks.silence(new HearingDesk(), row[0]);
            due.same("FRAMES of " + row[0], desk.count(2), row[1]);
            due.same("LOUD FRAMES of silence", desk.count(6), 0);
            if (row[1] > 0) {
                due.same("the last one", desk.power(row[1] - 1, 0), 0.0);
            }
            due.thrown("the one behind it", Due.INDEX, () -> desk.power(row[1], 0));
        }
    }

    private static void loudFramesCounted() {
        due.sentence("Promise 17: 6: LOUD FRAMES, by the THRESHOLD as it is");
        HearingDesk desk = Desks.frames("#,.+,");
        due.same("count(6) at first", desk.count(6), 4);
        desk.ways(0.5, 2, 4.0);
        due.same("count(6) at 0.5", desk.count(6), 2);
        desk.ways(100.0, 2, 4.0);
        due.same("count(6) at 100.0", desk.count(6), 1);
        desk.ways(1000.0, 2, 4.0);
        due.same("count(6) at 1000.0", desk.count(6), 0);
        desk.ways(0.01, 2, 4.0);
        Desks.more(desk, "#.");
        due.same("count(6) when samples come", desk.count(6), 5);
        desk.clear();
        due.same("count(6) of none", desk.count(6), 0);
    }
}
