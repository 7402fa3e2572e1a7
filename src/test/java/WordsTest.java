/** Promises 10 (ways), 14 (hear), 15 (word) and 16 (cost). */
public final class WordsTest {
    private static final Due due = new Due();

    public static void main(String[] args) {
        waysRefused();
        thresholdAtItsEdge();
        noFrame();
        gaps();
        tenFramesAtMost();
        quietAndNothing();
        letters();
        equalOnesTheFirst();
        limitAtItsEdge();
        firstLimit();
        wordsStayAsTheyWereHeard();
        times();
        refused();
        due.end();
    }

    /** A desk whose k-th hop of 16 samples is loud where the text has a '#'. */
    private static HearingDesk hops(String text) {
        HearingDesk desk = new HearingDesk();
        for (char hop : text.toCharArray()) {
            desk.wave(16, 4, hop == '#' ? 1.0 : 0.0);
        }
        return desk;
    }

    private static String heard(HearingDesk desk) {
        StringBuilder text = new StringBuilder();
        int n = desk.hear();
        due.same("count(5) is what hear() answered", desk.count(5), n);
        for (int k = 0; k < n; k++) {
            text.append(desk.word(k, 1)).append('+').append(desk.word(k, 2)).append(' ');
        }
        return text.toString();
    }

    private static void waysRefused() {
        HearingDesk desk = hops("##...##");
        double none = Double.NaN;
        double endless = Double.POSITIVE_INFINITY;
        double[][] wrong = {{0.0, 2, 4.0}, {-0.0, 2, 4.0}, {-1.0, 2, 4.0}, {none, 2, 4.0}, {-endless, 2, 4.0},
            {1.0, 0, 4.0}, {1.0, 5, 4.0}, {1.0, -1, 4.0}, {1.0, Integer.MIN_VALUE, 4.0}, {1.0, Integer.MAX_VALUE, 4.0},
            {1.0, 2, -1.0}, {1.0, 2, -Double.MIN_VALUE}, {1.0, 2, -endless}};
        desk.learn(97, 5, 1);
        for (double[] a : wrong) {
            due.thrown("ways(" + a[0] + ", " + (int) a[1] + ", " + a[2] + ")", Due.ARGUMENT,
                () -> desk.ways(a[0], (int) a[1], a[2]));
            due.thrown("ways that are wrong change nothing", Due.ARGUMENT, () -> desk.ways(a[0] > 0 ? 1e9 : a[0],
                (int) a[1], a[2]));
            due.same("count(6) as before", desk.count(6), 4);
        }
        due.text("words as before", heard(desk), "0+2 4+2 ");
        desk.ways(Double.MIN_VALUE, 1, 0.0);
        desk.ways(endless, 4, endless);
        due.same("nothing is loud", desk.hear(), 0);
        desk.ways(1e-300, 1, -0.0);
        desk.ways(0.01, 2, 0.0);
        due.text("words again", heard(desk), "0+2 4+2 ");
    }

    private static void thresholdAtItsEdge() {
        HearingDesk desk = tone(1.0);
        double loudness = loudness(desk);
        desk.ways(loudness, 1, 1.0);
        due.same("LOUD at the THRESHOLD", desk.count(6), 1);
        due.same("hear() at the THRESHOLD", desk.hear(), 1);
        desk.ways(Math.nextUp(loudness), 1, 1.0);
        due.same("LOUD below the THRESHOLD", desk.count(6), 0);
        due.same("hear() below the THRESHOLD", desk.hear(), 0);
        due.same("count(5) is that of the latest", desk.count(5), 0);
        HearingDesk even = new HearingDesk();
        even.wave(32, 0, 1e-6);
        due.same("frequency 0 is in no band", even.count(6), 0);
        double a = Edge.at(0.01, 0.001, 1.0, x -> loudness(tone(x)));
        due.same("LOUD at the first THRESHOLD", tone(a).count(6), 1);
        due.same("LOUD below the first THRESHOLD", tone(Math.nextDown(a)).count(6), 0);
    }

    private static HearingDesk tone(double a) {
        HearingDesk desk = new HearingDesk();
        desk.wave(32, 4, a);
        return desk;
    }

    private static double loudness(HearingDesk desk) {
        double loudness = 0.0;
        int[] lowest = {1, 3, 5, 9, 17};
        for (int b = 0; b < 4; b++) {
            double sum = 0.0;
            for (int k = lowest[b]; k < lowest[b + 1]; k++) {
                sum = sum + desk.power(0, k);
            }
            loudness = loudness + sum;
        }
        return loudness;
    }

    private static void noFrame() {
        HearingDesk desk = new HearingDesk();
        due.thrown("hear() of a new one", Due.STATE, desk::hear);
        desk.wave(31, 4, 1.0);
        due.thrown("hear() of 31 samples", Due.STATE, desk::hear);
        desk.wave(1, 4, 1.0);
        due.same("hear() of 32", desk.hear(), 1);
    }

    /** Frame f is of hops f and f + 1, so it is loud if one of these is. */
    private static void gaps() {
        due.text("gap 2, one quiet frame", heard(hops("##..##")), "0+5 ");
        due.text("gap 2, two quiet frames", heard(hops("##...##")), "0+2 4+2 ");
        String[] dueAtGap = {"0+2 3+3 8+3 14+3 ", "0+6 8+3 14+3 ", "0+10 10+1 14+3 ", "0+10 10+7 "};
        for (int gap = 1; gap <= 4; gap++) {
            HearingDesk desk = hops("##..##...##....##.");
            desk.ways(0.01, gap, 4.0);
            due.text("gap " + gap, heard(desk), dueAtGap[gap - 1]);
        }
        due.text("the gap begins anew behind a loud frame", heard(hops("#..#..#...#")), "0+7 9+1 ");
        for (int bits = 0; bits < 1 << 10; bits += 7) {
            StringBuilder text = new StringBuilder();
            for (int i = 0; i < 20; i++) {
                text.append((bits * 2654435761L >> i & 1) == 1 && i % 3 != 1 ? '#' : '.');
            }
            int gap = 1 + bits % 4;
            HearingDesk desk = hops(text.toString());
            desk.ways(0.01, gap, 4.0);
            due.text(text + " at gap " + gap, heard(desk), modelWords(text.toString(), gap));
        }
    }

    private static String modelWords(String hops, int gap) {
        PlainModel model = new PlainModel();
        for (char hop : hops.toCharArray()) {
            model.wave(16, 4, hop == '#' ? 1.0 : 0.0);
        }
        model.ways(0.01, gap, 4.0);
        StringBuilder text = new StringBuilder();
        int n = model.hear();
        for (int k = 0; k < n; k++) {
            text.append(model.word(k, 1)).append('+').append(model.word(k, 2)).append(' ');
        }
        return text.toString();
    }

    private static void tenFramesAtMost() {
        due.text("19 loud frames", heard(hops("####################")), "0+10 10+9 ");
        due.text("10 loud frames", heard(hops("###########")), "0+10 ");
        due.text("11 loud frames", heard(hops("############")), "0+10 10+1 ");
        due.text("the tenth is quiet, the next is loud", heard(hops("#########..#")), "0+9 10+1 ");
        due.text("the tenth is loud behind a quiet one", heard(hops("########..##")), "0+10 10+1 ");
        due.text("the tenth and the next are quiet", heard(hops(".########...####")), "0+9 11+4 ");
    }

    private static void quietAndNothing() {
        due.text("silence", heard(hops("......")), "");
        due.text("a word at the end", heard(hops("....#")), "3+1 ");
        due.text("a word in the middle", heard(hops("...#...")), "2+2 ");
        HearingDesk most = new HearingDesk();
        for (int i = 0; i < 5; i++) {
            most.wave(64, 4, 1.0);
        }
        most.ways(0.01, 1, 4.0);
        due.text("all is loud", heard(most), "0+10 10+9 ");
        HearingDesk desk = hops("##...##");
        due.same("two words", desk.hear(), 2);
        desk.ways(1e9, 2, 4.0);
        due.same("words are not lost by ways", desk.count(5), 2);
        due.same("none", desk.hear(), 0);
        due.thrown("word(0, 0) when there are none", Due.ELEMENT, () -> desk.word(0, 0));
    }

    private static HearingDesk twoTones() {
        HearingDesk desk = new HearingDesk();
        desk.wave(64, 2, 1.0);
        desk.wave(64, 0, 0.0);
        desk.wave(64, 10, 1.0);
        desk.wave(64, 0, 0.0);
        return desk;
    }

    private static void letters() {
        HearingDesk desk = twoTones();
        desk.learn(112, 0, 4);
        desk.learn(113, 7, 5);
        due.text("two words", heard(desk), "0+4 7+5 ");
        due.same("the first letter", desk.word(0, 0), 112);
        due.same("the second letter", desk.word(1, 0), 113);
        due.same("the first PATTERN", desk.word(0, 3), 0);
        due.same("the second PATTERN", desk.word(1, 3), 1);
        due.same("cost(0)", desk.cost(0), 0.0);
        due.same("cost(1)", desk.cost(1), 0.0);
        due.same("forget(0)", desk.forget(0), 112);
        desk.hear();
        due.same("the first is too far now", desk.word(0, 0), 63);
        due.same("its PATTERN all the same", desk.word(0, 3), 0);
        due.same("its cost is above the LIMIT", desk.cost(0) > 4.0 ? 1 : 0, 1);
        due.same("the second as before", desk.word(1, 0), 113);
        due.same("its PATTERN has moved up", desk.word(1, 3), 0);
    }

    private static void equalOnesTheFirst() {
        HearingDesk desk = twoTones();
        desk.learn(120, 4, 2);
        desk.learn(121, 0, 4);
        desk.learn(122, 0, 4);
        desk.hear();
        due.same("of equal ones the first", desk.word(0, 3), 1);
        due.same("and its letter", desk.word(0, 0), 121);
        desk.forget(1);
        due.same("the letter stays till the next hear()", desk.word(0, 0), 121);
        desk.hear();
        due.same("the other one now", desk.word(0, 0), 122);
    }

    private static void limitAtItsEdge() {
        HearingDesk desk = twoTones();
        desk.learn(97, 1, 2);
        desk.hear();
        double cost = desk.cost(0);
        due.same("it is not the same", cost > 0.0 ? 1 : 0, 1);
        desk.ways(0.01, 2, cost);
        desk.hear();
        due.same("at the LIMIT", desk.word(0, 0), 97);
        desk.ways(0.01, 2, Math.nextDown(cost));
        desk.hear();
        due.same("above the LIMIT", desk.word(0, 0), 63);
        due.same("cost(0) all the same", desk.cost(0), cost);
        desk.forget(0);
        desk.learn(98, 0, 4);
        desk.ways(0.01, 2, 0.0);
        desk.hear();
        due.same("at the LIMIT 0.0", desk.word(0, 0), 98);
        desk.ways(0.01, 2, Double.NaN);
        desk.hear();
        due.same("nothing is at most what is no number", desk.word(0, 0), 63);
    }

    private static void firstLimit() {
        double a = Edge.at(Math.nextUp(4.0), 1.0, 100.0, x -> learnedAndHeard(x).cost(0));
        due.near("the edge is found", learnedAndHeard(a).cost(0), 4.0, 1e-9);
        due.same("above the first LIMIT", learnedAndHeard(a).word(0, 0), 63);
        due.same("at most the first LIMIT", learnedAndHeard(Math.nextDown(a)).word(0, 0), 97);
    }

    /** A tone that was learned at 1.0 and is heard at a. */
    private static HearingDesk learnedAndHeard(double a) {
        HearingDesk desk = tone(1.0);
        desk.learn(97, 0, 1);
        desk.clear();
        desk.wave(32, 4, a);
        desk.hear();
        return desk;
    }

    private static void wordsStayAsTheyWereHeard() {
        HearingDesk desk = twoTones();
        desk.hear();
        desk.learn(97, 0, 4);
        due.same("no PATTERN when it was heard", desk.word(0, 3), -1);
        due.same("no letter when it was heard", desk.word(0, 0), 63);
        due.thrown("no cost when it was heard", Due.STATE, () -> desk.cost(0));
        desk.hear();
        double cost = desk.cost(1);
        desk.forget(0);
        due.same("PATTERN when it was heard", desk.word(1, 3), 0);
        due.same("letter when it was heard", desk.word(0, 0), 97);
        due.same("cost when it was heard", desk.cost(1), cost);
        desk.wave(64, 3, 1.0);
        due.same("WORDS when samples come", desk.count(5), 2);
        due.thrown("read() of no FILE", Due.ARGUMENT, desk::read);
        due.same("WORDS after that", desk.count(5), 2);
        due.same("hear() of them all", desk.hear(), 3);
        due.thrown("cost(0) without PATTERNS", Due.STATE, () -> desk.cost(0));
        due.thrown("cost(2) without PATTERNS", Due.STATE, () -> desk.cost(2));
        due.same("word(2, 3) without PATTERNS", desk.word(2, 3), -1);
    }

    private static void times() {
        HearingDesk desk = hops("...##...#");
        desk.hear();
        int[] dueOfFirst = {63, 2, 3, -1, 2 * 16 * 1000 / 8000, 6 * 16 * 1000 / 8000};
        for (int what = 0; what <= 5; what++) {
            due.same("word(0, " + what + ")", desk.word(0, what), dueOfFirst[what]);
        }
        for (int rate : new int[] {1000, 1001, 11025, 44100, 48000}) {
            int[] data = new int[320];
            java.util.Arrays.fill(data, 128);
            for (int i = 48; i < 100; i++) {
                data[i] = i % 8 < 4 ? 255 : 0;
            }
            HearingDesk file = Wav.pour(new HearingDesk(), Wav.file(1, rate, 8, data));
            file.read();
            file.hear();
            int first = file.word(0, 1);
            int frames = file.word(0, 2);
            due.same("the first frame", first, 2);
            due.same("how many frames", frames, 5);
            due.same("begin at " + rate, file.word(0, 4), (long) Math.floor(first * 16000.0 / rate));
            due.same("end at " + rate, file.word(0, 5), (long) Math.floor((first + frames + 1) * 16000.0 / rate));
        }
    }

    private static void refused() {
        HearingDesk desk = hops("##...##");
        due.thrown("word(0, 0) before hear()", Due.ELEMENT, () -> desk.word(0, 0));
        due.thrown("word(0, 6) before hear()", Due.ELEMENT, () -> desk.word(0, 6));
        due.thrown("cost(0) before hear()", Due.ELEMENT, () -> desk.cost(0));
        desk.hear();
        for (int k : new int[] {-1, 2, 18, 19, Integer.MIN_VALUE, Integer.MAX_VALUE}) {
            due.thrown("word(" + k + ", 0)", Due.ELEMENT, () -> desk.word(k, 0));
            due.thrown("word(" + k + ", 6)", Due.ELEMENT, () -> desk.word(k, 6));
            due.thrown("cost(" + k + ")", Due.ELEMENT, () -> desk.cost(k));
        }
        for (int what : new int[] {-1, 6, Integer.MIN_VALUE, Integer.MAX_VALUE}) {
            due.thrown("word(1, " + what + ")", Due.ARGUMENT, () -> desk.word(1, what));
        }
        due.thrown("cost(1) without PATTERNS", Due.STATE, () -> desk.cost(1));
    }
}
