import java.util.ArrayList;
import java.util.List;
import java.util.function.Supplier;

/** What a desk answers to a row of calls that together bring its whole state to light, at most some 350 of them. */
final class Answers {
    private final HearingDesk desk;
    private final List<String> lines = new ArrayList<>();

    private Answers(HearingDesk desk) {
        this.desk = desk;
    }

    /** All that is held: octets, place, samples, rate, patterns, words and ways. */
    static List<String> of(HearingDesk desk) {
        Answers answers = new Answers(desk);
        answers.ask("count(0)", () -> desk.count(0));
        answers.ask("place()", desk::place);
        answers.allButTheFile();
        answers.theFile();
        return answers.lines;
    }

    /** All but the octets and the place, which even a refused read() changes. */
    static List<String> butTheFile(HearingDesk desk) {
        Answers answers = new Answers(desk);
        answers.allButTheFile();
        return answers.lines;
    }

    private void ask(String call, Supplier<Number> answer) {
        try {
            lines.add(call + " answers " + answer.get());
        } catch (RuntimeException e) {
            lines.add(call + " throws " + e.getClass().getSimpleName());
        }
    }

    private void allButTheFile() {
        for (int what = 1; what <= 6; what++) {
            int counted = what;
            ask("count(" + what + ")", () -> desk.count(counted));
        }
        samplesAndLevels();
        words();
        patterns();
        ask("hear()", desk::hear);
        words();
        waysInNewSamples();
    }

    private void samplesAndLevels() {
        for (int i = 0; i <= 324; i += i % 16 == 0 ? 5 : 11) {
            int at = i;
            ask("sample(" + i + ")", () -> desk.sample(at));
        }
        for (int i = 0; i < 4 * 19; i++) {
            int at = i;
            ask("level(" + i / 4 + ", " + i % 4 + ")", () -> desk.level(at / 4, at % 4));
        }
    }

    private void words() {
        int n = desk.count(5);
        for (int k = 0; k <= n; k++) {
            int word = k;
            for (int what = 0; what <= 5; what++) {
                int asked = what;
                ask("word(" + k + ", " + what + ")", () -> desk.word(word, asked));
            }
            ask("cost(" + k + ")", () -> desk.cost(word));
        }
    }

    private void patterns() {
        for (int k = 0; k < desk.count(4); k++) {
            for (int j = 0; j <= k; j++) {
                int first = k;
                int second = j;
                ask("warp(" + k + ", " + j + ")", () -> desk.warp(first, second));
            }
        }
    }

    /** Pulses of rising size tell the threshold, quiet frames the gap; the letters have told the limit. */
    private void waysInNewSamples() {
        ask("clear()", desk::clear);
        desk.wave(16, 0, 0.0);
        for (double size : new double[] {0.01, 0.03, 0.1, 0.3, 9.0, 0.0, 9.0, 0.0, 0.0, 9.0, 0.0, 0.0, 0.0, 9.0}) {
            desk.wave(1, 0, size);
            desk.wave(15, 0, 0.0);
        }
        ask("count(6) of pulses", () -> desk.count(6));
        ask("hear() of pulses", desk::hear);
        words();
        while (desk.count(4) > 0) {
            ask("forget(0)", () -> desk.forget(0));
        }
    }

    private void theFile() {
        ask("read()", desk::read);
        ask("place() behind it", desk::place);
        ask("count(3) behind it", () -> desk.count(3));
        for (int i = 0; i < desk.count(1) && i < 12; i++) {
            int at = i;
            ask("sample(" + i + ") of the file", () -> desk.sample(at));
        }
    }
}
