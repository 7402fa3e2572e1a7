/** Promises 10 (ways), 14 (hear), 15 (word) and 16 (cost). */
public final class WordsTest {
    private static final Due due = new Due();

    public static void main(String[] args) {
        gaps();
        letters();
        wordsStayAsTheyWereHeard();
        times();
        due.end();
    }

    private static String heard(HearingDesk desk) {
        StringBuilder text = new StringBuilder();
        int n = desk.hear();
        due.same("count(5) is what hear() answered", desk.count(5), n);
        for (int k = 0; k < n; k++) {
            text.append(desk.word(k, 1)).append('+').append(desk.word(k, 2)).append(' ');
        }
        return text.toString();
    }

    /** Frame f is of hops f and f + 1, so it is loud if one of these is. */
    private static void gaps() {
        due.text("gap 2, one quiet frame", heard(Desks.hops("##..##")), "0+5 ");
        due.text("gap 2, two quiet frames", heard(Desks.hops("##...##")), "0+2 4+2 ");
        String[] dueAtGap = {"0+2 3+3 8+3 14+3 ", "0+6 8+3 14+3 ", "0+10 10+1 14+3 ", "0+10 10+7 "};
        for (int gap = 1; gap <= 4; gap++) {
            HearingDesk desk = Desks.hops("##..##...##....##.");
            desk.ways(0.01, gap, 4.0);
            due.text("gap " + gap, heard(desk), dueAtGap[gap - 1]);
        }
        due.text("the gap begins anew behind a loud frame", heard(Desks.hops("#..#..#...#")), "0+7 9+1 ");
        for (int bits = 0; bits < 1 << 10; bits += 7) {
            StringBuilder text = new StringBuilder();
            for (int i = 0; i < 20; i++) {
                text.append((bits * 2654435761L >> i & 1) == 1 && i % 3 != 1 ? '#' : '.');
            }
            int gap = 1 + bits % 4;
            HearingDesk desk = Desks.hops(text.toString());
            desk.ways(0.01, gap, 4.0);
            due.text(text + " at gap " + gap, heard(desk), modelWords(text.toString(), gap));
        }
    }

    private static String modelWords(String hops, int gap) {
        PlainModel model = new PlainModel();
        for (char hop : hops.toCharArray()) {
            model.wave(16, 4, hop == '#' ? 1.0 : 0.0);
        }
        model.ways(0.01, gap, 4.0);
        StringBuilder text = new StringBuilder();
        int n = model.hear();
        for (int k = 0; k < n; k++) {
            text.append(model.word(k, 1)).append('+').append(model.word(k, 2)).append(' ');
        }
        return text.toString();
    }

    private static HearingDesk twoTones() {
        HearingDesk desk = new HearingDesk();
        desk.wave(64, 2, 1.0);
        desk.wave(64, 0, 0.0);
        desk.wave(64, 10, 1.0);
        desk.wave(64, 0, 0.0);
        return desk;
    }

    private static void letters() {
        HearingDesk desk = twoTones();
        desk.learn(112, 0, 4);
        desk.learn(113, 7, 5);
        due.text("two words", heard(desk), "0+4 7+5 ");
        due.same("the first letter", desk.word(0, 0), 112);
        due.same("the second letter", desk.word(1, 0), 113);
        due.same("the first PATTERN", desk.word(0, 3), 0);
        due.same("the second PATTERN", desk.word(1, 3), 1);
        due.same("cost(0)", desk.cost(0), 0.0);
        due.same("cost(1)", desk.cost(1), 0.0);
        due.same("forget(0)", desk.forget(0), 112);
        desk.hear();
        due.same("the first is too far now", desk.word(0, 0), 63);
        due.same("its PATTERN all the same", desk.word(0, 3), 0);
        due.same("its cost is above the LIMIT", desk.cost(0) > 4.0 ? 1 : 0, 1);
        due.same("the second as before", desk.word(1, 0), 113);
        due.same("its PATTERN has moved up", desk.word(1, 3), 0);
    }

    private static void wordsStayAsTheyWereHeard() {
        HearingDesk desk = twoTones();
        desk.hear();
        desk.learn(97, 0, 4);
        due.same("no PATTERN when it was heard", desk.word(0, 3), -1);
        due.same("no letter when it was heard", desk.word(0, 0), 63);
        due.thrown("no cost when it was heard", Due.STATE, () -> desk.cost(0));
        desk.hear();
        double cost = desk.cost(1);
        desk.forget(0);
        due.same("PATTERN when it was heard", desk.word(1, 3), 0);
        due.same("letter when it was heard", desk.word(0, 0), 97);
        due.same("cost when it was heard", desk.cost(1), cost);
        desk.wave(64, 3, 1.0);
        due.same("WORDS when samples come", desk.count(5), 2);
        due.thrown("read() of no FILE", Due.ARGUMENT, desk::read);
        due.same("WORDS after that", desk.count(5), 2);
        due.same("hear() of them all", desk.hear(), 3);
        due.thrown("cost(0) without PATTERNS", Due.STATE, () -> desk.cost(0));
        due.thrown("cost(2) without PATTERNS", Due.STATE, () -> desk.cost(2));
        due.same("word(2, 3) without PATTERNS", desk.word(2, 3), -1);
    }

    private static void times() {
        HearingDesk desk = Desks.hops("...##...#");
        desk.hear();
        int[] dueOfFirst = {63, 2, 3, -1, 2 * 16 * 1000 / 8000, 6 * 16 * 1000 / 8000};
        for (int what = 0; what <= 5; what++) {
            due.same("word(0, " + what + ")", desk.word(0, what), dueOfFirst[what]);
        }
        for (int rate : new int[] {1000, 1001, 11025, 44100, 48000}) {
            int[] data = new int[320];
            java.util.Arrays.fill(data, 128);
            for (int i = 48; i < 100; i++) {
                data[i] = i % 8 < 4 ? 255 : 0;
            }
            HearingDesk file = Wav.pour(new HearingDesk(), Wav.file(1, rate, 8, data));
            file.read();
            file.hear();
            int first = file.word(0, 1);
            int frames = file.word(0, 2);
            due.same("the first frame", first, 2);
            due.same("how many frames", frames, 5);
            due.same("begin at " + rate, file.word(0, 4), (long) Math.floor(first * 16000.0 / rate));
            due.same("end at " + rate, file.word(0, 5), (long) Math.floor((first + frames + 1) * 16000.0 / rate));
        }
    }
}
