/** Promises 11 (learn), 12 (forget) and 13 (warp). */
public final class PatternsTest {
    private static final Due due = new Due();

    public static void main(String[] args) {
        learned();
        learnRefused();
        patternsStay();
        forgotten();
        warped();
        warpRefused();
        due.end();
    }

    /** Five tones of 64 samples: 19 frames. */
    private static HearingDesk tones() {
        HearingDesk desk = new HearingDesk();
        for (int i = 0; i < 5; i++) {
            desk.wave(64, 1 + 3 * i, 1.0 + i);
        }
        return desk;
    }

    private static void learned() {
        HearingDesk desk = tones();
        due.same("learn(97, 0, 8)", desk.learn(97, 0, 8), 1);
        due.same("learn(122, 18, 1)", desk.learn(122, 18, 1), 2);
        due.same("learn(97, 11, 8)", desk.learn(97, 11, 8), 3);
        for (int n = 4; n <= 6; n++) {
            due.same("learn(98, 0, 1)", desk.learn(98, 0, 1), n);
        }
        due.same("count(4)", desk.count(4), 6);
        due.thrown("a seventh", Due.INDEX, () -> desk.learn(99, 0, 1));
        due.thrown("a seventh of a wrong letter", Due.ARGUMENT, () -> desk.learn(1, 0, 1));
        due.same("count(4) still", desk.count(4), 6);
        desk.forget(5);
        due.same("learn(99, 0, 1) now", desk.learn(99, 0, 1), 6);
    }

    private static void learnRefused() {
        HearingDesk desk = tones();
        int big = Integer.MAX_VALUE;
        int small = Integer.MIN_VALUE;
        int[][] arguments = {{96, 0, 1}, {123, 0, 1}, {63, 0, 1}, {big, 0, 1}, {small, 0, 1}, {97, 0, 0}, {97, 0, 9},
            {97, 0, -1}, {97, 0, big}, {97, 0, small}, {97, 99, 9}, {96, 99, 1}};
        for (int[] a : arguments) {
            due.thrown("learn(" + a[0] + ", " + a[1] + ", " + a[2] + ")", Due.ARGUMENT,
                () -> desk.learn(a[0], a[1], a[2]));
        }
        int[][] indexes = {{97, -1, 1}, {97, 19, 1}, {97, 18, 2}, {97, 12, 8}, {97, big, 1}, {97, big, 8},
            {97, small, 8}, {97, -1, 8}};
        for (int[] a : indexes) {
            due.thrown("learn(" + a[0] + ", " + a[1] + ", " + a[2] + ")", Due.INDEX,
                () -> desk.learn(a[0], a[1], a[2]));
        }
        due.same("count(4) after refusals", desk.count(4), 0);
        HearingDesk empty = new HearingDesk();
        due.thrown("learn(97, 0, 1) without frames", Due.INDEX, () -> empty.learn(97, 0, 1));
        due.thrown("learn(97, -8, 8) without frames", Due.INDEX, () -> empty.learn(97, -8, 8));
    }

    private static void patternsStay() {
        HearingDesk desk = tones();
        desk.learn(97, 0, 2);
        desk.learn(98, 6, 4);
        double before = desk.warp(0, 1);
        desk.clear();
        desk.wave(64, 7, 100.0);
        desk.level(0, 0);
        due.same("WARP when the samples are others", desk.warp(0, 1), before);
        desk.learn(99, 0, 2);
        due.same("the new one is another", desk.warp(2, 0) > 0.0 ? 1 : 0, 1);
    }

    private static void forgotten() {
        HearingDesk desk = tones();
        due.thrown("forget(0) of none", Due.ELEMENT, () -> desk.forget(0));
        for (int k = 0; k < 6; k++) {
            desk.learn(97 + k, 3 * k, 1 + k % 3);
        }
        double before = desk.warp(2, 4);
        due.same("forget(3)", desk.forget(3), 100);
        due.same("those behind move up", desk.warp(2, 3), before);
        due.same("forget(0)", desk.forget(0), 97);
        due.same("those behind move up again", desk.warp(1, 2), before);
        due.same("count(4)", desk.count(4), 4);
        for (int k : new int[] {-1, 4, 5, 6, Integer.MIN_VALUE, Integer.MAX_VALUE}) {
            due.thrown("forget(" + k + ")", Due.ELEMENT, () -> desk.forget(k));
        }
        due.same("learn behind them", desk.learn(122, 9, 2), 5);
        due.same("what moved up is not overwritten", desk.warp(1, 2), before);
        int[] letters = {98, 99, 101, 102, 122};
        for (int letter : letters) {
            due.same("forget(0)", desk.forget(0), letter);
        }
        due.same("count(4) of none", desk.count(4), 0);
        due.thrown("forget(0) of none again", Due.ELEMENT, () -> desk.forget(0));
    }

    private static void warped() {
        HearingDesk desk = tones();
        desk.learn(97, 0, 1);
        desk.learn(98, 5, 1);
        double far = 0.0;
        for (int b = 0; b < 4; b++) {
            double d = desk.level(0, b) - desk.level(5, b);
            far = far + d * d;
        }
        due.same("WARP of one row and one row", desk.warp(0, 1), far / 2);
        desk.learn(99, 0, 2);
        double second = 0.0;
        for (int b = 0; b < 4; b++) {
            double d = desk.level(1, b) - desk.level(5, b);
            second = second + d * d;
        }
        due.same("WARP of two rows and one row", desk.warp(2, 1), (second + far) / 3);
        due.same("WARP of one row and two rows", desk.warp(1, 2), (second + far) / 3);
        desk.learn(100, 3, 8);
        desk.learn(101, 7, 6);
        PlainModel model = new PlainModel();
        for (int i = 0; i < 5; i++) {
            model.wave(64, 1 + 3 * i, 1.0 + i);
        }
        int[][] learned = {{0, 1}, {5, 1}, {0, 2}, {3, 8}, {7, 6}};
        for (int k = 0; k < learned.length; k++) {
            model.learn(97 + k, learned[k][0], learned[k][1]);
        }
        for (int k = 0; k < 5; k++) {
            for (int j = 0; j < 5; j++) {
                due.same("warp(" + k + ", " + j + ")", desk.warp(k, j), model.warp(k, j));
            }
            due.same("warp(" + k + ", " + k + ")", desk.warp(k, k), 0.0);
        }
    }

    private static void warpRefused() {
        HearingDesk desk = tones();
        due.thrown("warp(0, 0) of none", Due.ELEMENT, () -> desk.warp(0, 0));
        desk.learn(97, 0, 1);
        desk.learn(97, 0, 1);
        for (int k : new int[] {-1, 2, 5, 6, Integer.MIN_VALUE, Integer.MAX_VALUE}) {
            due.thrown("warp(" + k + ", 0)", Due.ELEMENT, () -> desk.warp(k, 0));
            due.thrown("warp(0, " + k + ")", Due.ELEMENT, () -> desk.warp(0, k));
        }
        desk.forget(0);
        due.thrown("warp(0, 1) when one is gone", Due.ELEMENT, () -> desk.warp(0, 1));
    }
}
