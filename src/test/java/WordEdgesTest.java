import java.util.function.Consumer;

/** The boundary cases of LOUD and WORDS, and of promises 10 (ways), 14 (hear), 15 (word) and 16 (cost). */
public final class WordEdgesTest {
    private static final int LEAST = Integer.MIN_VALUE;
    private static final int MOST = Integer.MAX_VALUE;
    private static final double ENDLESS = Double.POSITIVE_INFINITY;
    private static final Due due = new Due();

    public static void main(String[] args) {
        loudAtTheThreshold();
        firstThreshold();
        bandsOfLoudness();
        thresholdAboveZero();
        gapOneToFour();
        limitNotBelowZero();
        waysAsTheyAre();
        waysStay();
        noFrame();
        noWord();
        firstLoudFrame();
        gapOfQuietFrames();
        firstGap();
        tenLookedAt();
        noMoreFrames();
        lastLoudFrame();
        nextBehindThoseLookedAt();
        allFramesLoud();
        mostWords();
        heardAgain();
        leastWarp();
        equalOnes();
        atMostTheLimit();
        firstLimit();
        noPatterns();
        tenRowsAndEight();
        times();
        timesAreCut();
        wordsThatAreNot();
        whatIsAskedOfAWord();
        costOfWordsThatAreNot();
        costWithoutPatterns();
        wordsStay();
        due.end();
    }

    /** The words of a desk, each as its first frame and how many it has. */
    private static String heard(HearingDesk desk) {
        StringBuilder text = new StringBuilder();
        int n = desk.hear();
        due.same("count(5) is what hear() answered", desk.count(5), n);
        for (int k = 0; k < n; k++) {
            text.append(desk.word(k, 1)).append('+').append(desk.word(k, 2)).append(' ');
        }
        due.thrown("word(" + n + ", 0)", Due.ELEMENT, () -> desk.word(n, 0));
        return text.toString();
    }

    private static void words(String frames, int gap, String words) {
        HearingDesk desk = Desks.frames(frames);
        desk.ways(0.5, gap, 4.0);
        due.text("hear() of " + frames + " at gap " + gap, heard(desk), words);
    }

    private static void loudAtTheThreshold() {
        due.sentence("LOUD f: the sum of its four sums before LN, from 0.0 on, is at least the THRESHOLD");
        for (double a : new double[] {1e-9, 0.01, 1.0, 12.5, 1e70}) {
            HearingDesk desk = Desks.pulse(11, a);
            double loudness = Desks.loudness(desk, 0);
            desk.ways(loudness, 1, 1.0);
            due.same("LOUD at the THRESHOLD", desk.count(6), 1);
            due.same("hear() at the THRESHOLD", desk.hear(), 1);
            desk.ways(Math.nextDown(loudness), 1, 1.0);
            due.same("LOUD above the THRESHOLD", desk.count(6), 1);
            due.same("hear() above the THRESHOLD", desk.hear(), 1);
            desk.ways(Math.nextUp(loudness), 1, 1.0);
            due.same("LOUD below the THRESHOLD", desk.count(6), 0);
            due.same("hear() below the THRESHOLD", desk.hear(), 0);
        }
    }

    private static void firstThreshold() {
        due.sentence("LOUD: the THRESHOLD, at first 0.01");
        for (int i = 1; i < 32; i++) {
            int at = i;
            double a = Edge.at(0.01, 0.0, 100.0, x -> Desks.loudness(Desks.pulse(at, x), 0));
            due.same("LOUD at 0.01", Desks.pulse(i, a).count(6), 1);
            due.same("hear() at 0.01", Desks.pulse(i, a).hear(), 1);
            due.same("LOUD below 0.01", Desks.pulse(i, Math.nextDown(a)).count(6), 0);
            due.same("hear() below 0.01", Desks.pulse(i, Math.nextDown(a)).hear(), 0);
        }
    }

    private static void bandsOfLoudness() {
        due.sentence("LOUD: of the four sums, k 1 to 16");
        for (int step = 2; step <= 16; step++) {
            HearingDesk desk = new HearingDesk();
            desk.wave(32, step, 1.0);
            desk.ways(step == 16 ? 300.0 : 90.0, 1, 1.0);
            due.same("a tone of step " + step, desk.count(6), 1);
        }
        HearingDesk even = new HearingDesk();
        even.wave(32, 0, 1.0);
        even.ways(65.0, 1, 1.0);
        due.same("frequency 0, which is 256, is in no band", even.count(6), 0);
        even.ways(63.0, 1, 1.0);
        due.same("frequency 1, which is 64, is in one", even.count(6), 1);
    }

    /** A call of ways that is refused, on a new desk and on one whose ways are others. */
    private static void refused(String call, Consumer<HearingDesk> run) {
        due.refused(call, Due.ARGUMENT, HearingDesk::new, run);
        due.refused(call, Due.ARGUMENT, Desks::busy, run);
    }

    private static void thresholdAboveZero() {
        due.sentence("Promise 10: IllegalArgumentException: threshold is not above 0.0");
        for (double threshold : new double[] {Double.MIN_VALUE, 1e-300, 1.0, Double.MAX_VALUE, ENDLESS}) {
            HearingDesk desk = Desks.frames("#.,");
            desk.ways(threshold, 2, 4.0);
            due.same("count(6) at " + threshold, desk.count(6), threshold < 0.1 ? 2 : threshold == 1.0 ? 1 : 0);
        }
        for (double threshold : new double[] {0.0, -0.0, -Double.MIN_VALUE, -0.01, -1e300, -ENDLESS, Double.NaN}) {
            refused("ways(" + threshold + ", 1, 1e9)", x -> x.ways(threshold, 1, 1e9));
        }
    }

    private static void gapOneToFour() {
        due.sentence("Promise 10: IllegalArgumentException: gap is not 1..4; WORDS: GAP (1..4)");
        for (int gap = 1; gap <= 4; gap++) {
            words("#.#..#...#....#", gap, new String[] {"0+1 2+1 5+1 9+1 14+1 ", "0+3 5+1 9+1 14+1 ",
                "0+6 9+1 14+1 ", "0+10 14+1 "}[gap - 1]);
        }
        for (int gap : new int[] {0, 5, -1, -4, LEAST, MOST}) {
            refused("ways(1e9, " + gap + ", 1e9)", x -> x.ways(1e9, gap, 1e9));
            refused("ways(1e-9, " + gap + ", 0.0)", x -> x.ways(1e-9, gap, 0.0));
        }
    }

    private static void limitNotBelowZero() {
        due.sentence("Promise 10: IllegalArgumentException: limit is below 0.0");
        for (double limit : new double[] {0.0, -0.0, Double.MIN_VALUE, 4.0, 1e300, ENDLESS}) {
            HearingDesk desk = Desks.frames("#..+");
            desk.learn(98, 0, 1);
            desk.ways(0.5, 2, limit);
            desk.hear();
            due.same("word(0, 0), which costs 0.0, at " + limit, desk.word(0, 0), 98);
            due.same("word(1, 0), which costs more, at " + limit, desk.word(1, 0), limit > 1e9 ? 98 : 63);
        }
        for (double limit : new double[] {-Double.MIN_VALUE, -1e-300, -1.0, -1e300, -ENDLESS}) {
            refused("ways(1e9, 1, " + limit + ")", x -> x.ways(1e9, 1, limit));
            refused("ways(1e-9, 4, " + limit + ")", x -> x.ways(1e-9, 4, limit));
        }
        refused("ways(0.0, 0, -1.0), all wrong", x -> x.ways(0.0, 0, -1.0));
    }

    private static void waysAsTheyAre() {
        due.sentence("Promise 10: THRESHOLD, GAP, LIMIT are these");
        HearingDesk desk = Desks.frames("#,..#....#");
        desk.learn(97, 1, 1);
        desk.ways(1e9, 1, 0.0);
        due.text("at 1e9", heard(desk), "");
        desk.ways(0.5, 4, 1e9);
        due.text("at 0.5", heard(desk), "0+5 9+1 ");
        due.same("any letter", desk.word(1, 0), 97);
        desk.ways(0.01, 2, 0.0);
        due.same("WORDS stay until the next hear()", desk.count(5), 2);
        due.same("and their letters", desk.word(1, 0), 97);
        due.text("at 0.01", heard(desk), "0+2 4+1 9+1 ");
        due.same("no letter", desk.word(1, 0), 63);
    }

    private static void waysStay() {
        due.sentence("Promise 10: THRESHOLD, GAP, LIMIT are these until the next ways");
        HearingDesk desk = Desks.frames("+");
        desk.learn(97, 0, 1);
        desk.ways(0.5, 3, 25.0);
        desk.clear();
        waysAreSeen("after clear()", desk);
        Wav.pour(desk, Wav.file(1, 8000, 8)).read();
        waysAreSeen("after read()", desk);
        due.thrown("read() of no FILE", Due.ARGUMENT, () -> Wav.pour(desk, 1).read());
        desk.learn(98, 0, 1);
        desk.forget(1);
        desk.clear();
        waysAreSeen("after a refused read() and others", desk);
    }

    /** Whether the ways are 0.5, 3 and 25.0: words that others would not find, and a '#' that costs some 20.7. */
    private static void waysAreSeen(String when, HearingDesk desk) {
        Desks.more(desk, ".#..#,..#");
        due.text("hear() " + when, heard(desk), "0+4 7+1 ");
        due.same("word(1, 0) " + when, desk.word(1, 0), 97);
        due.near("cost(1) " + when, desk.cost(1), 20.7, 0.1);
    }

    private static void noFrame() {
        due.sentence("Promise 14: IllegalStateException: there is no FRAME");
        due.refused("hear() of a new one", Due.STATE, HearingDesk::new, x -> x.hear());
        for (int n : new int[] {1, 16, 31}) {
            due.refused("hear() of " + n, Due.STATE, () -> Desks.silence(new HearingDesk(), n), x -> x.hear());
        }
        HearingDesk desk = new HearingDesk();
        desk.wave(31, 4, 1.0);
        due.thrown("hear() of 31", Due.STATE, desk::hear);
        desk.wave(1, 4, 1.0);
        due.same("hear() of 32", desk.hear(), 1);
        desk.clear();
        due.thrown("hear() after clear()", Due.STATE, desk::hear);
    }

    private static void noWord() {
        due.sentence("Promise 14: WORDS are found: how many: none");
        for (int n : new int[] {32, 48, 320}) {
            HearingDesk desk = Desks.silence(new HearingDesk(), n);
            due.same("hear() of " + n + " silent samples", desk.hear(), 0);
            due.same("count(5)", desk.count(5), 0);
            due.thrown("word(0, 1)", Due.ELEMENT, () -> desk.word(0, 1));
            due.thrown("cost(0)", Due.ELEMENT, () -> desk.cost(0));
        }
    }

    private static void firstLoudFrame() {
        due.sentence("WORDS: one begins with the first LOUD FRAME");
        for (int f = 0; f < 19; f++) {
            StringBuilder frames = new StringBuilder("...................");
            frames.setCharAt(f, '#');
            words(frames.toString(), 2, f + "+1 ");
        }
        words("#", 1, "0+1 ");
        words("#", 4, "0+1 ");
    }

    private static void gapOfQuietFrames() {
        due.sentence("WORDS: until GAP of them one behind the other are not LOUD");
        words("#.#", 1, "0+1 2+1 ");
        words("#.#", 2, "0+3 ");
        words("#..#", 2, "0+1 3+1 ");
        words("#..#", 3, "0+4 ");
        words("#...#", 3, "0+1 4+1 ");
        words("#...#", 4, "0+5 ");
        words("#....#", 4, "0+1 5+1 ");
        words("#.#.#.#", 2, "0+7 ");
        words("#..#..#", 3, "0+7 ");
        words("#.#..#.#", 2, "0+3 5+3 ");
        words("#...#...#", 4, "0+9 ");
        words("##", 1, "0+2 ");
        words("#,#", 1, "0+1 2+1 ");
    }

    private static void firstGap() {
        due.sentence("WORDS: GAP, at first 2");
        due.text("one quiet frame", heard(Desks.frames("#.#")), "0+3 ");
        due.text("two quiet frames", heard(Desks.frames("#..#")), "0+1 3+1 ");
        due.text("one quiet frame, then one more", heard(Desks.frames("#.#.#..#")), "0+5 7+1 ");
    }

    private static void tenLookedAt() {
        due.sentence("WORDS: or 10 are looked at (with the first one)");
        for (int gap = 1; gap <= 4; gap++) {
            words("#########", gap, "0+9 ");
            words("##########", gap, "0+10 ");
            words("###########", gap, "0+10 10+1 ");
            words(".###########", gap, "1+10 11+1 ");
        }
        words("#########.#", 2, "0+9 10+1 ");
        words("#########..#", 2, "0+9 11+1 ");
        words("########.##", 2, "0+10 10+1 ");
        words("########..#", 3, "0+8 10+1 ");
        words("#######...#", 4, "0+7 10+1 ");
        words("#..#..#..#..#", 3, "0+10 12+1 ");
        words("#...#...#...#", 4, "0+9 12+1 ");
    }

    private static void noMoreFrames() {
        due.sentence("WORDS: or there are no more");
        words("..#", 2, "2+1 ");
        words("..#.", 2, "2+1 ");
        words("..#.", 4, "2+1 ");
        words("..#...", 4, "2+1 ");
        words("..##.#", 4, "2+4 ");
        words("..................#", 4, "18+1 ");
        words(".........##########", 4, "9+10 ");
        words("..........#########", 4, "10+9 ");
        words("..........########.", 4, "10+8 ");
    }

    private static void lastLoudFrame() {
        due.sentence("WORDS: it ends with the last LOUD one of these");
        words("##.", 2, "0+2 ");
        words("##..", 2, "0+2 ");
        words("##.#...", 3, "0+4 ");
        words("######.#..#", 3, "0+8 10+1 ");
        words("#.........#", 4, "0+1 10+1 ");
        words("#..#......#", 4, "0+4 10+1 ");
        words("#######..#.#", 4, "0+10 11+1 ");
        words("######.#...#", 4, "0+8 11+1 ");
    }

    private static void nextBehindThoseLookedAt() {
        due.sentence("WORDS: the next begins with the first LOUD one behind those that were looked at, and so on");
        words("#..##", 2, "0+1 3+2 ");
        words("#.#", 1, "0+1 2+1 ");
        words("#...#", 2, "0+1 4+1 ");
        words("#########.##", 2, "0+9 10+2 ");
        words("#########..##", 2, "0+9 11+2 ");
        words("##########.##", 2, "0+10 11+2 ");
        words("#..#..#..#..#..#..#", 2, "0+1 3+1 6+1 9+1 12+1 15+1 18+1 ");
        words("#########.#.#######", 3, "0+9 10+9 ");
    }

    private static void allFramesLoud() {
        due.sentence("WORDS: all 19 FRAMES are LOUD");
        for (int gap = 1; gap <= 4; gap++) {
            words("###################", gap, "0+10 10+9 ");
        }
    }

    private static void mostWords() {
        due.sentence("WORDS: as many as there can be");
        words("#.#.#.#.#.#.#.#.#.#", 1, "0+1 2+1 4+1 6+1 8+1 10+1 12+1 14+1 16+1 18+1 ");
    }

    private static void heardAgain() {
        due.sentence("Promise 14: WORDS are found anew");
        HearingDesk desk = Desks.frames("#..#..#");
        due.text("three", heard(desk), "0+1 3+1 6+1 ");
        due.text("three again", heard(desk), "0+1 3+1 6+1 ");
        Desks.more(desk, "#..#");
        due.same("three until hear()", desk.count(5), 3);
        due.text("four", heard(desk), "0+1 3+1 6+2 10+1 ");
        desk.ways(0.5, 4, 4.0);
        due.text("two", heard(desk), "0+8 10+1 ");
        desk.ways(1e9, 4, 4.0);
        due.text("none", heard(desk), "");
    }

    private static void leastWarp() {
        due.sentence("WORDS: its letter: that of the PATTERN with the least WARP");
        for (int nearest = 0; nearest < 6; nearest++) {
            HearingDesk desk = Desks.frames("#..+..,,");
            for (int k = 0; k < 6; k++) {
                desk.learn(97 + k, k == nearest ? 3 : 0, 1);
            }
            desk.hear();
            due.same("word(1, 3)", desk.word(1, 3), nearest);
            due.same("word(1, 0)", desk.word(1, 0), 97 + nearest);
            due.same("cost(1)", desk.cost(1), 0.0);
            due.same("word(0, 3)", desk.word(0, 3), nearest == 0 ? 1 : 0);
            due.same("cost(0)", desk.cost(0), 0.0);
            due.same("word(2, 0), which is far from all", desk.word(2, 0), 63);
            due.holds("its PATTERN is told all the same", desk.word(2, 3) >= 0 && desk.cost(2) > 4.0);
        }
    }

    private static void equalOnes() {
        due.sentence("WORDS: of equal ones the first");
        HearingDesk desk = Desks.frames("#..+");
        desk.learn(109, 1, 1);
        desk.learn(110, 0, 1);
        desk.learn(111, 0, 1);
        desk.learn(112, 0, 1);
        desk.hear();
        due.same("word(0, 3)", desk.word(0, 3), 1);
        due.same("word(0, 0)", desk.word(0, 0), 110);
        due.same("word(1, 3), equally far from three", desk.word(1, 3), 1);
        due.same("word(1, 0)", desk.word(1, 0), 63);
        desk.forget(1);
        desk.hear();
        due.same("word(0, 3) without that one", desk.word(0, 3), 1);
        due.same("word(0, 0) without that one", desk.word(0, 0), 111);
    }

    private static void atMostTheLimit() {
        due.sentence("WORDS: if that is at most the LIMIT; else 63");
        HearingDesk desk = Desks.frames("+..#");
        desk.learn(122, 3, 1);
        desk.hear();
        double cost = desk.cost(0);
        due.holds("the cost is above the first LIMIT", cost > 4.0);
        due.same("word(0, 0) above the first LIMIT", desk.word(0, 0), 63);
        double[] limits = {cost, Math.nextUp(cost), Math.nextDown(cost), 0.0};
        int[] letters = {122, 122, 63, 63};
        for (int i = 0; i < limits.length; i++) {
            desk.ways(0.5, 2, limits[i]);
            desk.hear();
            due.same("word(0, 0) at the LIMIT " + limits[i], desk.word(0, 0), letters[i]);
            due.same("word(0, 3) all the same", desk.word(0, 3), 0);
            due.same("cost(0) all the same", desk.cost(0), cost);
            due.same("word(1, 0), which costs nothing", desk.word(1, 0), 122);
        }
    }

    private static HearingDesk learnedAndHeard(double a) {
        HearingDesk desk = Desks.pulse(11, 1.0);
        desk.learn(97, 0, 1);
        desk.clear();
        Desks.silence(desk, 11);
        desk.wave(1, 0, a);
        Desks.silence(desk, 20);
        desk.hear();
        return desk;
    }

    private static void firstLimit() {
        due.sentence("WORDS: the LIMIT, at first 4.0");
        double a = Edge.at(Math.nextUp(4.0), 1.0, 100.0, x -> learnedAndHeard(x).cost(0));
        due.near("the cost above it", learnedAndHeard(a).cost(0), 4.0, 1e-12);
        due.same("above the first LIMIT", learnedAndHeard(a).word(0, 0), 63);
        due.same("at most the first LIMIT", learnedAndHeard(Math.nextDown(a)).word(0, 0), 97);
        due.same("the same", learnedAndHeard(1.0).word(0, 0), 97);
    }

    private static void noPatterns() {
        due.sentence("WORDS: else 63; Promise 15: 3: the PATTERN with the least WARP, -1 if there are none");
        HearingDesk desk = Desks.frames("#..+");
        due.same("hear()", desk.hear(), 2);
        for (int k = 0; k < 2; k++) {
            due.same("word(" + k + ", 0)", desk.word(k, 0), 63);
            due.same("word(" + k + ", 3)", desk.word(k, 3), -1);
        }
        desk.ways(0.5, 2, ENDLESS);
        desk.hear();
        due.same("word(0, 0) at any LIMIT", desk.word(0, 0), 63);
        desk.learn(97, 0, 1);
        desk.forget(0);
        desk.hear();
        due.same("word(0, 3) when all are forgotten", desk.word(0, 3), -1);
    }

    private static void tenRowsAndEight() {
        due.sentence("WORDS: WARP of its rows (FRAMES), up to 10, and those of the PATTERN, up to 8");
        HearingDesk desk = Desks.tones();
        PlainModel model = new PlainModel();
        for (int i = 0; i < 5; i++) {
            model.wave(64, 1 + 3 * i, 1.0 + i);
        }
        for (int n : new int[] {8, 7, 5, 3, 2, 1}) {
            desk.learn(97 + n, 19 - n, n);
            model.learn(97 + n, 19 - n, n);
            due.same("hear()", desk.hear(), model.hear());
            for (int k = 0; k < 2; k++) {
                due.same("word(" + k + ", 2)", desk.word(k, 2), 10 - k);
                due.same("cost(" + k + ")", desk.cost(k), model.cost(k));
                due.same("word(" + k + ", 3)", desk.word(k, 3), model.word(k, 3));
                due.same("word(" + k + ", 0)", desk.word(k, 0), model.word(k, 0));
            }
        }
        HearingDesk even = Desks.frames("##########.");
        even.learn(97, 10, 1);
        even.hear();
        double far = 0.0;
        for (int b = 0; b < 4; b++) {
            double d = even.level(0, b) - even.level(10, b);
            far = far + d * d;
        }
        due.near("cost(0) of 10 rows and one", even.cost(0), 10 * far / 11, 1e-9);
    }

    private static HearingDesk atRate(int rate, String frames) {
        HearingDesk desk = Wav.pour(new HearingDesk(), Wav.file(1, rate, 8));
        desk.read();
        Desks.more(desk, "." + frames);
        desk.hear();
        return desk;
    }

    private static void times() {
        due.sentence("Promise 15: 16 SAMPLES for each FRAME before it, and for each up to its last one and 16 more");
        for (int first = 0; first < 19; first++) {
            String frames = "...................".substring(0, first) + "#".repeat(Math.min(10, 19 - first));
            HearingDesk desk = atRate(1000, frames);
            due.same("word(0, 1)", desk.word(0, 1), first);
            due.same("word(0, 4) of frame " + first, desk.word(0, 4), 16 * first);
            due.same("word(0, 5) of frame " + first, desk.word(0, 5), 16 * (first + Math.min(10, 19 - first)) + 16);
        }
        HearingDesk desk = Desks.frames("#.....#");
        desk.hear();
        due.same("the first begins at once", desk.word(0, 4), 0);
        due.same("the first ends with its frame", desk.word(0, 5), 4);
        due.same("the last begins", desk.word(1, 4), 12);
        due.same("the last ends with the samples", desk.word(1, 5), 16);
    }

    private static void timesAreCut() {
        due.sentence("Promise 15: 4, 5: in milliseconds by RATE, cut to a whole number");
        int[][] rows = {{1000, 16, 48}, {1001, 15, 47}, {8000, 2, 6}, {11025, 1, 4}, {15999, 1, 3}, {16000, 1, 3},
            {16001, 0, 2}, {22050, 0, 2}, {44100, 0, 1}, {47999, 0, 1}, {48000, 0, 1}};
        for (int[] row : rows) {
            HearingDesk desk = atRate(row[0], ".#");
            due.same("word(0, 4) at " + row[0], desk.word(0, 4), row[1]);
            due.same("word(0, 5) at " + row[0], desk.word(0, 5), row[2]);
        }
        HearingDesk last = atRate(48000, "..................#");
        due.same("word(0, 4), 6.0", last.word(0, 4), 6);
        due.same("word(0, 5), 6.67", last.word(0, 5), 6);
        HearingDesk least = atRate(1001, "..................#");
        due.same("word(0, 4), 287.7", least.word(0, 4), 287);
        due.same("word(0, 5), 319.7", least.word(0, 5), 319);
    }

    private static HearingDesk twoWords() {
        HearingDesk desk = Desks.frames("#..+");
        desk.learn(97, 0, 1);
        desk.hear();
        return desk;
    }

    private static HearingDesk tenWords() {
        HearingDesk desk = Desks.frames("#.#.#.#.#.#.#.#.#.#");
        desk.ways(0.5, 1, 4.0);
        desk.hear();
        return desk;
    }

    private static void wordsThatAreNot() {
        due.sentence("Promise 15: WORD k (0 first); NoSuchElementException: there is none");
        due.same("word(0, 1)", twoWords().word(0, 1), 0);
        due.same("word(1, 1)", twoWords().word(1, 1), 3);
        due.same("word(9, 1) of 10", tenWords().word(9, 1), 18);
        due.thrown("word(10, 1) of 10", Due.ELEMENT, () -> tenWords().word(10, 1));
        for (int k : new int[] {-1, 2, 3, 18, 19, 20, LEAST, MOST}) {
            for (int what = 0; what <= 5; what++) {
                int asked = what;
                due.thrown("word(" + k + ", " + what + ")", Due.ELEMENT, () -> twoWords().word(k, asked));
            }
            due.refused("word(" + k + ", 0)", Due.ELEMENT, WordEdgesTest::twoWords, x -> x.word(k, 0));
            due.refused("word(" + k + ", 6), which is wrong twice", Due.ELEMENT, WordEdgesTest::twoWords,
                x -> x.word(k, 6));
        }
        due.refused("word(0, 0) before hear()", Due.ELEMENT, () -> Desks.frames("#..#"), x -> x.word(0, 0));
        due.refused("word(4, 5) of 4", Due.ELEMENT, Desks::busy, x -> x.word(4, 5));
    }

    private static void whatIsAskedOfAWord() {
        due.sentence("Promise 15: what 0 to 5; IllegalArgumentException for others");
        int[] answers = {63, 3, 1, 0, 6, 10};
        for (int what = 0; what <= 5; what++) {
            due.same("word(1, " + what + ")", twoWords().word(1, what), answers[what]);
        }
        for (int what : new int[] {-1, 6, 7, LEAST, MOST}) {
            due.refused("word(0, " + what + ")", Due.ARGUMENT, WordEdgesTest::twoWords, x -> x.word(0, what));
            due.refused("word(3, " + what + ")", Due.ARGUMENT, Desks::busy, x -> x.word(3, what));
        }
    }

    private static void costOfWordsThatAreNot() {
        due.sentence("Promise 16: the least WARP of WORD k; NoSuchElementException: there is none");
        due.same("cost(0)", twoWords().cost(0), 0.0);
        due.holds("cost(1) is more", twoWords().cost(1) > 0.0);
        for (int k : new int[] {-1, 2, 3, 18, 19, LEAST, MOST}) {
            due.refused("cost(" + k + ")", Due.ELEMENT, WordEdgesTest::twoWords, x -> x.cost(k));
        }
        due.refused("cost(4) of 4", Due.ELEMENT, Desks::busy, x -> x.cost(4));
        due.refused("cost(0) before hear()", Due.ELEMENT, () -> Desks.frames("#..#"), x -> x.cost(0));
        due.refused("cost(10) of 10, without PATTERNS", Due.ELEMENT, WordEdgesTest::tenWords, x -> x.cost(10));
    }

    private static void costWithoutPatterns() {
        due.sentence("Promise 16: IllegalStateException: there were no PATTERNS");
        for (int k = 0; k < 10; k++) {
            int word = k;
            due.thrown("cost(" + k + ") of 10", Due.STATE, () -> tenWords().cost(word));
        }
        due.refused("cost(0) of 10", Due.STATE, WordEdgesTest::tenWords, x -> x.cost(0));
        due.refused("cost(9) of 10", Due.STATE, WordEdgesTest::tenWords, x -> x.cost(9));
        HearingDesk desk = tenWords();
        desk.learn(97, 0, 1);
        due.thrown("cost(0): there were none when it was heard", Due.STATE, () -> desk.cost(0));
        desk.hear();
        due.same("cost(0): there was one when it was heard", desk.cost(0), 0.0);
        desk.forget(0);
        due.same("cost(0): there was one, though it is gone", desk.cost(0), 0.0);
        desk.hear();
        due.thrown("cost(0): it was gone when it was heard", Due.STATE, () -> desk.cost(0));
    }

    private static void wordsStay() {
        due.sentence("WORDS are found by hear() alone, and gone by read() and clear()");
        HearingDesk desk = twoWords();
        double cost = desk.cost(1);
        desk.learn(98, 3, 1);
        desk.forget(0);
        desk.ways(1e9, 1, 1e9);
        desk.wave(64, 3, 1.0);
        Wav.pour(desk, 1);
        due.thrown("read() of no FILE", Due.ARGUMENT, desk::read);
        int[] answers = {63, 3, 1, 0, 6, 10};
        for (int what = 0; what <= 5; what++) {
            due.same("word(1, " + what + ")", desk.word(1, what), answers[what]);
        }
        due.same("word(0, 0)", desk.word(0, 0), 97);
        due.same("cost(1)", desk.cost(1), cost);
        desk.clear();
        due.thrown("word(0, 0) after clear()", Due.ELEMENT, () -> desk.word(0, 0));
        HearingDesk other = twoWords();
        Wav.pour(other, Wav.file(1, 8000, 8)).read();
        due.thrown("word(0, 0) after read()", Due.ELEMENT, () -> other.word(0, 0));
    }
}
