/** The boundary cases of PATTERNS, FAR and WARP, and of promises 11 (learn), 12 (forget) and 13 (warp). */
public final class PatternEdgesTest {
    private static final int LEAST = Integer.MIN_VALUE;
    private static final int MOST = Integer.MAX_VALUE;
    private static final Due due = new Due();

    public static void main(String[] args) {
        letters();
        rows();
        framesThatAreThere();
        framesThatAreNotThere();
        sixPatterns();
        wrongTwice();
        patternsStayAsLearned();
        forgottenMoveUp();
        lettersOfTheForgotten();
        forgottenToTheLast();
        forgetWhatIsNotThere();
        farOfTwoRows();
        oneRow();
        withoutTheWayBefore();
        theLeastOfThree();
        divided();
        upToEightRows();
        warpOfWhatIsNotThere();
        due.end();
    }

    private static HearingDesk six() {
        HearingDesk desk = Desks.tones();
        for (int k = 0; k < 6; k++) {
            desk.learn(97 + k, 3 * k, 1 + k % 4);
        }
        return desk;
    }

    private static void letters() {
        due.sentence("PATTERNS: each a letter 97..122; Promise 11: IllegalArgumentException: letter");
        for (int letter : new int[] {97, 98, 121, 122}) {
            HearingDesk desk = Desks.tones();
            due.same("learn(" + letter + ", 0, 1)", desk.learn(letter, 0, 1), 1);
            due.same("forget(0)", desk.forget(0), letter);
        }
        for (int letter : new int[] {96, 123, 63, 65, 0, -97, 97 + 256, LEAST, MOST}) {
            due.refused("learn(" + letter + ", 0, 1)", Due.ARGUMENT, Desks::tones, x -> x.learn(letter, 0, 1));
            due.refused("learn(" + letter + ", 0, 1)", Due.ARGUMENT, Desks::busy, x -> x.learn(letter, 0, 1));
        }
    }

    private static void rows() {
        due.sentence("PATTERNS: 1 to 8 rows of four LEVELS; Promise 11: IllegalArgumentException: n is not 1..8");
        for (int n : new int[] {1, 2, 7, 8}) {
            HearingDesk desk = Desks.frames("#.......+..........");
            due.same("learn(97, 0, " + n + ")", desk.learn(97, 0, n), 1);
            due.same("learn(98, 8, 1)", desk.learn(98, 8, 1), 2);
            double far = far(desk, 0, 8) + (n - 1) * far(desk, 1, 8);
            due.near("warp(0, 1) has " + n + " rows", desk.warp(0, 1), far / (n + 1), 1e-9);
        }
        for (int n : new int[] {0, 9, -1, -8, 19, LEAST, MOST}) {
            due.refused("learn(97, 0, " + n + ")", Due.ARGUMENT, Desks::tones, x -> x.learn(97, 0, n));
            due.refused("learn(97, 5, " + n + ")", Due.ARGUMENT, Desks::busy, x -> x.learn(97, 5, n));
        }
    }

    private static double far(HearingDesk desk, int f, int g) {
        double sum = 0.0;
        for (int b = 0; b < 4; b++) {
            double d = desk.level(f, b) - desk.level(g, b);
            sum = sum + d * d;
        }
        return sum;
    }

    private static void framesThatAreThere() {
        due.sentence("Promise 11: a PATTERN of n FRAMES from f on: how many PATTERNS");
        for (int n = 1; n <= 8; n++) {
            HearingDesk desk = Desks.tones();
            due.same("learn(97, 0, " + n + ")", desk.learn(97, 0, n), 1);
            due.same("learn(98, " + (19 - n) + ", " + n + ")", desk.learn(98, 19 - n, n), 2);
            due.same("learn(99, " + (18 - n) + ", " + n + ")", desk.learn(99, 18 - n, n), 3);
            due.same("count(4)", desk.count(4), 3);
        }
        HearingDesk desk = Desks.tones();
        desk.learn(97, 0, 1);
        desk.learn(98, 18, 1);
        due.same("the first and the last FRAME", desk.warp(0, 1), far(desk, 0, 18) / 2);
        HearingDesk one = Desks.tone(1.0);
        due.same("learn(97, 0, 1) of a single frame", one.learn(97, 0, 1), 1);
    }

    private static void framesThatAreNotThere() {
        due.sentence("Promise 11: IndexOutOfBoundsException: one is not there");
        for (int n = 1; n <= 8; n++) {
            int rows = n;
            for (int f : new int[] {20 - n, 19, 20, -1, -n, LEAST, MOST, MOST - 7, MOST - n + 1}) {
                due.refused("learn(97, " + f + ", " + n + ") of 19", Due.INDEX, Desks::tones,
                    x -> x.learn(97, f, rows));
            }
            due.refused("learn(97, " + (17 - n) + ", " + n + ") of 16", Due.INDEX, Desks::busy,
                x -> x.learn(97, 17 - rows, rows));
            due.refused("learn(97, 0, " + n + ") of none", Due.INDEX, () -> Desks.silence(new HearingDesk(), 31),
                x -> x.learn(97, 0, rows));
            due.refused("learn(97, " + -n + ", " + n + ") of none", Due.INDEX, HearingDesk::new,
                x -> x.learn(97, -rows, rows));
        }
        HearingDesk desk = Desks.silence(new HearingDesk(), 47);
        due.thrown("learn(97, 0, 2) of 47 samples", Due.INDEX, () -> desk.learn(97, 0, 2));
        desk.wave(1, 0, 0.0);
        due.same("learn(97, 0, 2) of 48 samples", desk.learn(97, 0, 2), 1);
    }

    private static void sixPatterns() {
        due.sentence("PATTERNS: up to 6; Promise 11: IndexOutOfBoundsException: there are 6");
        HearingDesk desk = Desks.tones();
        for (int k = 1; k <= 6; k++) {
            due.same("learn(97, 0, 1), number " + k, desk.learn(97, 0, 1), k);
            due.same("count(4)", desk.count(4), k);
        }
        due.refused("learn(110, 1, 8), the seventh", Due.INDEX, PatternEdgesTest::six, x -> x.learn(110, 1, 8));
        due.thrown("learn(97, 0, 1), the seventh", Due.INDEX, () -> desk.learn(97, 0, 1));
        due.same("forget(2)", desk.forget(2), 97);
        due.same("learn(122, 0, 1) when there is room", desk.learn(122, 0, 1), 6);
        due.thrown("learn(97, 0, 1), the seventh again", Due.INDEX, () -> desk.learn(97, 0, 1));
        due.same("the last learned is the last", desk.forget(5), 122);
    }

    private static void wrongTwice() {
        due.sentence("Promise 11: letter or n, and a FRAME that is not there or 6 PATTERNS");
        due.refused("learn(96, 0, 1) with 6", Due.ARGUMENT, PatternEdgesTest::six, x -> x.learn(96, 0, 1));
        due.refused("learn(97, 0, 0) with 6", Due.ARGUMENT, PatternEdgesTest::six, x -> x.learn(97, 0, 0));
        due.refused("learn(123, 19, 1)", Due.ARGUMENT, Desks::tones, x -> x.learn(123, 19, 1));
        due.refused("learn(97, 19, 9)", Due.ARGUMENT, Desks::tones, x -> x.learn(97, 19, 9));
        due.refused("learn(96, 0, 1) of no frame", Due.ARGUMENT, HearingDesk::new, x -> x.learn(96, 0, 1));
        due.refused("learn(97, 19, 1) with 6", Due.INDEX, PatternEdgesTest::six, x -> x.learn(97, 19, 1));
    }

    private static void patternsStayAsLearned() {
        due.sentence("PATTERNS: rows of LEVELS, those of the FRAMES as they were");
        HearingDesk desk = Desks.frames("#+.#");
        desk.learn(97, 0, 2);
        desk.learn(98, 2, 2);
        double before = desk.warp(0, 1);
        desk.clear();
        due.same("warp(0, 1) after clear()", desk.warp(0, 1), before);
        desk.wave(64, 7, 100.0);
        desk.level(0, 0);
        due.same("warp(0, 1) when the samples are others", desk.warp(0, 1), before);
        Wav.pour(desk, Wav.file(1, 9000, 8, new int[64])).read();
        desk.level(0, 0);
        due.same("warp(0, 1) after read()", desk.warp(0, 1), before);
        due.same("count(4) after read()", desk.count(4), 2);
    }

    private static void forgottenMoveUp() {
        due.sentence("Promise 12: PATTERN k is gone, those behind it move up");
        for (int gone = 0; gone < 6; gone++) {
            HearingDesk desk = six();
            HearingDesk whole = six();
            desk.forget(gone);
            due.same("count(4)", desk.count(4), 5);
            for (int k = 0; k < 5; k++) {
                for (int j = 0; j < 5; j++) {
                    double before = whole.warp(k < gone ? k : k + 1, j < gone ? j : j + 1);
                    due.same("warp(" + k + ", " + j + ") without " + gone, desk.warp(k, j), before);
                }
            }
            due.thrown("warp(5, 0) without " + gone, Due.ELEMENT, () -> desk.warp(5, 0));
            due.same("learn(120, 0, 8) behind them", desk.learn(120, 0, 8), 6);
            due.same("those before stay", desk.warp(3, 4), whole.warp(gone <= 3 ? 4 : 3, gone <= 4 ? 5 : 4));
            due.same("the new one is the last", desk.forget(5), 120);
        }
    }

    private static void lettersOfTheForgotten() {
        due.sentence("Promise 12: its letter");
        for (int gone = 0; gone < 6; gone++) {
            HearingDesk desk = six();
            due.same("forget(" + gone + ")", desk.forget(gone), 97 + gone);
            for (int k = 0; k < 5; k++) {
                due.same("forget(0) without " + gone, desk.forget(0), 97 + (k < gone ? k : k + 1));
            }
        }
    }

    private static void forgottenToTheLast() {
        due.sentence("Promise 12: the only PATTERN is gone");
        HearingDesk desk = Desks.tones();
        for (int turn = 0; turn < 3; turn++) {
            due.same("learn", desk.learn(100 + turn, turn, 2), 1);
            due.same("forget(0)", desk.forget(0), 100 + turn);
            due.same("count(4)", desk.count(4), 0);
            due.thrown("forget(0) of none", Due.ELEMENT, () -> desk.forget(0));
            due.thrown("warp(0, 0) of none", Due.ELEMENT, () -> desk.warp(0, 0));
        }
    }

    private static void forgetWhatIsNotThere() {
        due.sentence("Promise 12: NoSuchElementException: there is none");
        for (int k : new int[] {-1, 6, 7, LEAST, MOST}) {
            due.refused("forget(" + k + ") of 6", Due.ELEMENT, PatternEdgesTest::six, x -> x.forget(k));
            due.refused("forget(" + k + ") of none", Due.ELEMENT, Desks::tones, x -> x.forget(k));
        }
        due.refused("forget(3) of 3", Due.ELEMENT, Desks::busy, x -> x.forget(3));
        due.refused("forget(5) when one of 6 is gone", Due.ELEMENT, PatternEdgesTest::five, x -> x.forget(5));
        due.same("forget(4) when one of 6 is gone", five().forget(4), 101);
    }

    private static HearingDesk five() {
        HearingDesk desk = six();
        desk.forget(5);
        return desk;
    }

    /** A desk with two patterns, each as a text of frames says. */
    private static HearingDesk two(String first, String second) {
        HearingDesk desk = Desks.frames(first + second);
        desk.learn(97, 0, first.length());
        desk.learn(98, first.length(), second.length());
        return desk;
    }

    private static void farOfTwoRows() {
        due.sentence("FAR of two rows: for b 0 to 3, from 0.0 on, d * d added, d being the first less the second");
        HearingDesk desk = Desks.pulse(5, 1.0);
        Desks.silence(desk, 13);
        desk.wave(1, 0, 9.0);
        Desks.silence(desk, 18);
        desk.learn(97, 0, 1);
        desk.learn(98, 2, 1);
        due.same("warp(0, 1)", desk.warp(0, 1), far(desk, 0, 2) / 2);
        due.same("warp(1, 0)", desk.warp(1, 0), far(desk, 2, 0) / 2);
        for (int b = 0; b < 4; b++) {
            due.holds("band " + b + " is not the same in both", Math.abs(desk.level(0, b) - desk.level(2, b)) > 1.0);
        }
        due.same("FAR of a row and itself", desk.warp(0, 0), 0.0);
    }

    private static void oneRow() {
        due.sentence("WARP: D(i, j) is FAR alone for i 0 and j 0");
        HearingDesk desk = two("#", ".");
        due.same("warp(0, 1)", desk.warp(0, 1), far(desk, 0, 1) / 2);
        due.same("warp(1, 0)", desk.warp(1, 0), far(desk, 0, 1) / 2);
        due.same("warp(0, 0)", desk.warp(0, 0), 0.0);
        due.same("warp(1, 1)", desk.warp(1, 1), 0.0);
    }

    private static void withoutTheWayBefore() {
        due.sentence("WARP: the least of D(i - 1, j - 1), D(i - 1, j), D(i, j - 1), as far as they are there");
        for (int m = 2; m <= 8; m++) {
            HearingDesk desk = two("#", "........".substring(0, m));
            double far = far(desk, 0, 1);
            double sum = far;
            for (int j = 1; j < m; j++) {
                sum = far + sum;
            }
            due.same("one row and " + m, desk.warp(0, 1), sum / (1 + m));
            due.same(m + " rows and one", desk.warp(1, 0), sum / (m + 1));
        }
    }

    private static void theLeastOfThree() {
        due.sentence("WARP: the least of D(i - 1, j - 1), D(i - 1, j), D(i, j - 1)");
        String[][] alike = {{"#.", "#."}, {".#+", ".#+"}, {"##.", "#."}, {"#..", "#."}, {"#.", "##."}, {"#.", "#.."},
            {"###...", "#."}, {"#.", "#......."}, {"#+.#+.", "##+.#++."}, {"##++..", "#+."}};
        for (String[] pair : alike) {
            HearingDesk desk = two(pair[0], pair[1]);
            due.same("warp(0, 1) of " + pair[0] + " and " + pair[1], desk.warp(0, 1), 0.0);
            due.same("warp(1, 0) of " + pair[0] + " and " + pair[1], desk.warp(1, 0), 0.0);
        }
        HearingDesk desk = two("#.#", "...");
        double far = far(desk, 0, 1);
        due.same("the first row and the last are bound", desk.warp(0, 1), (far + far) / 6);
        HearingDesk other = two("#.", ".#");
        double first = far(other, 0, 2);
        due.same("the short way is taken", other.warp(0, 1), (first + first) / 4);
    }

    private static void divided() {
        due.sentence("WARP: it is D(n - 1, m - 1) / (n + m)");
        for (int n = 1; n <= 8; n++) {
            for (int m = 1; m <= 8; m++) {
                HearingDesk desk = two("########".substring(8 - n), "........".substring(8 - m));
                double far = far(desk, 0, n);
                double path = far;
                for (int i = 1; i < Math.max(n, m); i++) {
                    path = far + path;
                }
                due.same("warp(0, 1) of " + n + " and " + m, desk.warp(0, 1), path / (n + m));
                due.same("warp(1, 0) of " + m + " and " + n, desk.warp(1, 0), path / (n + m));
            }
        }
    }

    private static void upToEightRows() {
        due.sentence("WARP of n rows and m rows, up to 8 of both");
        HearingDesk desk = Desks.tones();
        PlainModel model = new PlainModel();
        for (int i = 0; i < 5; i++) {
            model.wave(64, 1 + 3 * i, 1.0 + i);
        }
        int[][] learned = {{0, 8}, {11, 8}, {3, 5}, {7, 1}, {9, 3}, {2, 7}};
        for (int[] row : learned) {
            desk.learn(97, row[0], row[1]);
            model.learn(97, row[0], row[1]);
        }
        for (int k = 0; k < 6; k++) {
            for (int j = 0; j < 6; j++) {
                due.same("warp(" + k + ", " + j + ")", desk.warp(k, j), model.warp(k, j));
            }
            due.same("warp(" + k + ", " + k + ")", desk.warp(k, k), 0.0);
        }
    }

    private static void warpOfWhatIsNotThere() {
        due.sentence("Promise 13: NoSuchElementException: one is not there");
        due.holds("0 and 5 of 6 are there", six().warp(0, 5) > 0.0 && six().warp(5, 0) > 0.0);
        for (int k : new int[] {-1, 6, 7, LEAST, MOST}) {
            due.refused("warp(" + k + ", 5) of 6", Due.ELEMENT, PatternEdgesTest::six, x -> x.warp(k, 5));
            due.refused("warp(0, " + k + ") of 6", Due.ELEMENT, PatternEdgesTest::six, x -> x.warp(0, k));
            due.refused("warp(" + k + ", " + k + ") of 6", Due.ELEMENT, PatternEdgesTest::six, x -> x.warp(k, k));
            due.refused("warp(" + k + ", 0) of none", Due.ELEMENT, Desks::tones, x -> x.warp(k, 0));
        }
        due.refused("warp(3, 0) of 3", Due.ELEMENT, Desks::busy, x -> x.warp(3, 0));
        due.refused("warp(2, 3) of 3", Due.ELEMENT, Desks::busy, x -> x.warp(2, 3));
        due.refused("warp(3, 0) of 3 that are left", Due.ELEMENT, PatternEdgesTest::three, x -> x.warp(3, 0));
        due.refused("warp(2, 3) of 3 that are left", Due.ELEMENT, PatternEdgesTest::three, x -> x.warp(2, 3));
        due.refused("warp(0, 0) of none", Due.ELEMENT, Desks::tones, x -> x.warp(0, 0));
    }

    /** Three that are left of six. */
    private static HearingDesk three() {
        HearingDesk desk = six();
        desk.forget(0);
        desk.forget(1);
        desk.forget(2);
        return desk;
    }
}
