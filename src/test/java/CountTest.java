/** Promises 1 (a new object) and 17 (count). */
public final class CountTest {
    private static final Due due = new Due();

    public static void main(String[] args) {
        counted();
        loudFramesAsSamplesCome();
        objectsAreApart();
        due.end();
    }

    private static void counts(String when, HearingDesk desk, int... all) {
        for (int what = 0; what < all.length; what++) {
            due.same("count(" + what + ") " + when, desk.count(what), all[what]);
        }
    }

    private static void counted() {
        HearingDesk desk = new HearingDesk();
        desk.octets(5, 0L);
        desk.wave(64, 3, 1.0);
        desk.learn(97, 1, 2);
        desk.learn(98, 0, 1);
        counts("before hear()", desk, 5, 64, 3, 8000, 2, 0, 3);
        desk.hear();
        counts("after hear()", desk, 5, 64, 3, 8000, 2, 1, 3);
        desk.ways(1e6, 1, 1.0);
        counts("after ways", desk, 5, 64, 3, 8000, 2, 1, 0);
        HearingDesk other = Wav.pour(new HearingDesk(), Wav.file(2, 12345, 8, new int[66]));
        other.read();
        counts("after read()", other, 0, 33, 1, 12345, 0, 0, 1);
    }

    private static void loudFramesAsSamplesCome() {
        HearingDesk desk = new HearingDesk();
        PlainModel model = new PlainModel();
        for (int i = 0; i < 32; i++) {
            double a = i % 5 < 2 ? 0.0 : i / 1000.0;
            desk.wave(10, i, a);
            model.wave(10, i, a);
            due.same("LOUD FRAMES of " + 10 * (i + 1), desk.count(6), model.count(6));
        }
    }

    private static void objectsAreApart() {
        HearingDesk one = new HearingDesk();
        HearingDesk other = new HearingDesk();
        one.octets(1, 1L);
        one.wave(64, 1, 1.0);
        one.ways(1e-5, 1, 1.0);
        one.learn(97, 0, 1);
        one.hear();
        counts("of an object that nothing was done to", other, 0, 0, 0, 8000, 0, 0, 0);
    }
}
