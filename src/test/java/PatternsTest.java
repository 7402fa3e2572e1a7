/** Promises 11 (learn), 12 (forget) and 13 (warp). */
public final class PatternsTest {
    private static final Due due = new Due();

    public static void main(String[] args) {
        learned();
        forgotten();
        warped();
        due.end();
    }

    private static void learned() {
        HearingDesk desk = Desks.tones();
        due.same("learn(97, 0, 8)", desk.learn(97, 0, 8), 1);
        due.same("learn(122, 18, 1)", desk.learn(122, 18, 1), 2);
        due.same("learn(97, 11, 8)", desk.learn(97, 11, 8), 3);
        for (int n = 4; n <= 6; n++) {
            due.same("learn(98, 0, 1)", desk.learn(98, 0, 1), n);
        }
        due.same("count(4)", desk.count(4), 6);
        desk.forget(5);
        due.same("learn(99, 0, 1) now", desk.learn(99, 0, 1), 6);
    }

    private static void forgotten() {
        HearingDesk desk = Desks.tones();
        for (int k = 0; k < 6; k++) {
            desk.learn(97 + k, 3 * k, 1 + k % 3);
        }
        double before = desk.warp(2, 4);
        due.same("forget(3)", desk.forget(3), 100);
        due.same("those behind move up", desk.warp(2, 3), before);
        due.same("forget(0)", desk.forget(0), 97);
        due.same("those behind move up again", desk.warp(1, 2), before);
        due.same("count(4)", desk.count(4), 4);
        due.same("learn behind them", desk.learn(122, 9, 2), 5);
        due.same("what moved up is not overwritten", desk.warp(1, 2), before);
        int[] letters = {98, 99, 101, 102, 122};
        for (int letter : letters) {
            due.same("forget(0)", desk.forget(0), letter);
        }
        due.same("count(4) of none", desk.count(4), 0);
    }

    private static void warped() {
        HearingDesk desk = Desks.tones();
        desk.learn(97, 0, 1);
        desk.learn(98, 5, 1);
        double far = 0.0;
        for (int b = 0; b < 4; b++) {
            double d = desk.level(0, b) - desk.level(5, b);
            far = far + d * d;
        }
        due.same("WARP of one row and one row", desk.warp(0, 1), far / 2);
        desk.learn(99, 0, 2);
        double second = 0.0;
        for (int b = 0; b < 4; b++) {
            double d = desk.level(1, b) - desk.level(5, b);
            second = second + d * d;
        }
        due.same("WARP of two rows and one row", desk.warp(2, 1), (second + far) / 3);
        due.same("WARP of one row and two rows", desk.warp(1, 2), (second + far) / 3);
        desk.learn(100, 3, 8);
        desk.learn(101, 7, 6);
        PlainModel model = new PlainModel();
        for (int i = 0; i < 5; i++) {
            model.wave(64, 1 + 3 * i, 1.0 + i);
        }
        int[][] learned = {{0, 1}, {5, 1}, {0, 2}, {3, 8}, {7, 6}};
        for (int k = 0; k < learned.length; k++) {
            model.learn(97 + k, learned[k][0], learned[k][1]);
        }
        for (int k = 0; k < 5; k++) {
            for (int j = 0; j < 5; j++) {
                due.same("warp(" + k + ", " + j + ")", desk.warp(k, j), model.warp(k, j));
            }
            due.same("warp(" + k + ", " + k + ")", desk.warp(k, k), 0.0);
        }
    }
}
