/** Promises 2 (octets), 3 (read) and 4 (place). */
public final class FileTest {
    private static final Due due = new Due();

    public static void main(String[] args) {
        octetsCome();
        samplesOfEachKind();
        whatReadingChanges();
        rates();
        due.end();
    }

    private static void octetsCome() {
        HearingDesk desk = new HearingDesk();
        due.same("octets(1, -1)", desk.octets(1, -1L), 1);
        due.same("octets(8, -1)", desk.octets(8, -1L), 9);
        due.same("count(0)", desk.count(0), 9);
        desk = new HearingDesk();
        for (int i = 1; i <= 50; i++) {
            due.same("octets(8, 0), the " + i + "th", desk.octets(8, 0L), 8L * i);
        }
        desk = new HearingDesk();
        int[] file = Wav.file(1, 8000, 16, 1, 2, 255, 255);
        for (int octet : file) {
            desk.octets(1, octet | 0x7777777777777700L);
        }
        due.same("read() of single octets, whatever is above them", desk.read(), 2);
        due.same("sample(0)", desk.sample(0), 513 / 32768.0);
        due.same("sample(1)", desk.sample(1), -1 / 32768.0);
    }

    private static void samplesOfEachKind() {
        HearingDesk desk = new HearingDesk();
        Wav.pour(desk, Wav.file(1, 44100, 8, 0, 128, 255, 127));
        samples(desk, 44100, -1.0, 0.0, 127 / 128.0, -1 / 128.0);
        Wav.pour(desk, Wav.file(2, 1000, 8, 0, 255, 129, 128));
        samples(desk, 1000, -1 / 256.0, 1 / 256.0);
        Wav.pour(desk, Wav.file(1, 48000, 16, 0, 128, 255, 127, 1, 0));
        samples(desk, 48000, -1.0, 32767 / 32768.0, 1 / 32768.0);
        Wav.pour(desk, Wav.file(2, 22050, 16, 0, 128, 255, 127, 3, 0, 0, 0));
        samples(desk, 22050, -1 / 65536.0, 3 / 65536.0);
    }

    private static void samples(HearingDesk desk, int rate, double... values) {
        due.same("read()", desk.read(), values.length);
        due.same("place()", desk.place(), -1);
        due.same("count(0) after it", desk.count(0), 0);
        due.same("count(1) after it", desk.count(1), values.length);
        due.same("count(3) after it", desk.count(3), rate);
        for (int i = 0; i < values.length; i++) {
            due.same("sample(" + i + ") at " + rate, desk.sample(i), values[i]);
        }
    }

    private static void whatReadingChanges() {
        HearingDesk desk = new HearingDesk();
        due.same("place() of a new one", desk.place(), -1);
        desk.wave(64, 3, 1.0);
        desk.learn(97, 0, 1);
        desk.hear();
        due.thrown("read() of nothing", Due.ARGUMENT, desk::read);
        due.same("place() of nothing", desk.place(), 0);
        due.same("WORDS after a fault", desk.count(5), 1);
        due.same("SAMPLES after a fault", desk.count(1), 64);
        Wav.pour(desk, Wav.file(1, 8000, 8, 1, 2));
        due.same("place() before the next read()", desk.place(), 0);
        due.same("read()", desk.read(), 2);
        due.same("place()", desk.place(), -1);
        due.same("SAMPLES after it", desk.count(1), 2);
        due.same("WORDS after it", desk.count(5), 0);
        due.same("PATTERNS after it", desk.count(4), 1);
        due.thrown("read() again", Due.ARGUMENT, desk::read);
        due.same("RATE and SAMPLES stay", desk.count(3) + desk.count(1), 8002);
    }

    private static void rates() {
        HearingDesk desk = Wav.pour(new HearingDesk(), Wav.file(2, 48000, 16, new int[4]));
        due.same("read() at 48000 with 4 octets a frame", desk.read(), 1);
        due.same("RATE", desk.count(3), 48000);
        desk.clear();
        due.same("RATE after clear()", desk.count(3), 48000);
    }
}
