/** Promises 2 (octets), 3 (read) and 4 (place). */
public final class FileTest {
    private static final Due due = new Due();

    public static void main(String[] args) {
        octetsCome();
        octetsRefused();
        samplesOfEachKind();
        emptyFile();
        faults();
        bitsAreJudgedBehindTheirWidth();
        firstFaultOfTwo();
        shortFiles();
        tooManySamples();
        whatReadingChanges();
        rates();
        due.end();
    }

    private static void octetsCome() {
        HearingDesk desk = new HearingDesk();
        due.same("octets(1, -1)", desk.octets(1, -1L), 1);
        due.same("octets(8, -1)", desk.octets(8, -1L), 9);
        due.same("count(0)", desk.count(0), 9);
        desk = new HearingDesk();
        for (int i = 1; i <= 50; i++) {
            due.same("octets(8, 0), the " + i + "th", desk.octets(8, 0L), 8L * i);
        }
        desk = new HearingDesk();
        int[] file = Wav.file(1, 8000, 16, 1, 2, 255, 255);
        for (int octet : file) {
            desk.octets(1, octet | 0x7777777777777700L);
        }
        due.same("read() of single octets, whatever is above them", desk.read(), 2);
        due.same("sample(0)", desk.sample(0), 513 / 32768.0);
        due.same("sample(1)", desk.sample(1), -1 / 32768.0);
    }

    private static void octetsRefused() {
        HearingDesk desk = new HearingDesk();
        for (int n : new int[] {0, 9, -1, Integer.MIN_VALUE, Integer.MAX_VALUE}) {
            due.thrown("octets(" + n + ", 1)", Due.ARGUMENT, () -> desk.octets(n, 1L));
        }
        due.same("count(0) after refusals", desk.count(0), 0);
        for (int i = 0; i < 49; i++) {
            desk.octets(8, 0L);
        }
        due.same("octets(1, 0)", desk.octets(1, 0L), 393);
        due.thrown("octets(8, 0) at 393", Due.INDEX, () -> desk.octets(8, 0L));
        due.same("count(0) at 393", desk.count(0), 393);
        due.same("octets(7, 0)", desk.octets(7, 0L), 400);
        due.thrown("octets(1, 0) at 400", Due.INDEX, () -> desk.octets(1, 0L));
        due.thrown("octets(9, 0) at 400", Due.ARGUMENT, () -> desk.octets(9, 0L));
        due.same("count(0) at 400", desk.count(0), 400);
    }

    private static void samplesOfEachKind() {
        HearingDesk desk = new HearingDesk();
        Wav.pour(desk, Wav.file(1, 44100, 8, 0, 128, 255, 127));
        samples(desk, 44100, -1.0, 0.0, 127 / 128.0, -1 / 128.0);
        Wav.pour(desk, Wav.file(2, 1000, 8, 0, 255, 129, 128));
        samples(desk, 1000, -1 / 256.0, 1 / 256.0);
        Wav.pour(desk, Wav.file(1, 48000, 16, 0, 128, 255, 127, 1, 0));
        samples(desk, 48000, -1.0, 32767 / 32768.0, 1 / 32768.0);
        Wav.pour(desk, Wav.file(2, 22050, 16, 0, 128, 255, 127, 3, 0, 0, 0));
        samples(desk, 22050, -1 / 65536.0, 3 / 65536.0);
    }

    private static void samples(HearingDesk desk, int rate, double... values) {
        due.same("read()", desk.read(), values.length);
        due.same("place()", desk.place(), -1);
        due.same("count(0) after it", desk.count(0), 0);
        due.same("count(1) after it", desk.count(1), values.length);
        due.same("count(3) after it", desk.count(3), rate);
        for (int i = 0; i < values.length; i++) {
            due.same("sample(" + i + ") at " + rate, desk.sample(i), values[i]);
        }
    }

    private static void emptyFile() {
        HearingDesk desk = new HearingDesk();
        desk.wave(40, 1, 1.0);
        Wav.pour(desk, Wav.file(2, 9000, 16));
        samples(desk, 9000);
        due.same("count(2)", desk.count(2), 0);
    }

    private static void faults() {
        for (int at : new int[] {0, 1, 2, 3}) {
            fault(0, at, 1);
        }
        for (int at : new int[] {8, 9, 10, 11}) {
            fault(8, at, 32);
        }
        for (int at : new int[] {12, 13, 14, 15}) {
            fault(12, at, 1);
        }
        for (int at : new int[] {36, 37, 38, 39}) {
            fault(36, at, 0);
        }
        for (int start : new int[] {4, 16, 28, 40}) {
            for (int i = 0; i < 4; i++) {
                fault(start, start + i, 77);
            }
        }
        for (int start : new int[] {20, 22}) {
            fault(start, start, 0);
            fault(start, start, 4);
            fault(start, start + 1, 1);
        }
        fault(24, 24 + 2, 1);
        fault(24, 24 + 3, 128);
        fault(4, Wav.number(file(), 4, 4, 43));
        fault(4, Wav.number(file(), 4, 4, 45));
        fault(22, Wav.number(file(), 22, 2, 3));
        fault(24, Wav.file(1, 999, 8, 0));
        fault(24, Wav.file(1, 48001, 8, 0));
        fault(24, Wav.file(1, 0, 8, 0));
        fault(28, Wav.number(file(), 28, 4, 8001));
        fault(40, Wav.number(file(), 40, 4, 7));
        fault(40, Wav.number(file(), 40, 4, 9));
        fault(40, Wav.file(1, 8000, 16, 1, 2, 3));
        fault(40, Wav.file(2, 8000, 8, 1, 2, 3));
        fault(40, Wav.file(2, 8000, 16, 1, 2, 3, 4, 5, 6));
        fault(-1, Wav.file(1, 1000, 8, 0));
        fault(-1, Wav.file(1, 48000, 8, 0));
    }

    private static int[] file() {
        return Wav.file(1, 8000, 8, 1, 2, 3, 4, 5, 6, 7, 8);
    }

    private static void fault(int place, int at, int octet) {
        int[] file = file();
        file[at] = octet;
        fault(place, file);
    }

    private static void fault(int place, int[] file) {
        HearingDesk desk = Wav.pour(new HearingDesk(), file);
        if (place == -1) {
            due.same("read()", desk.read(), (file.length - 44) / file[32]);
        } else {
            due.thrown("read() with a fault at " + place, Due.ARGUMENT, desk::read);
        }
        due.same("place()", desk.place(), place);
        due.same("count(0) after read()", desk.count(0), 0);
    }

    private static void bitsAreJudgedBehindTheirWidth() {
        fault(34, Wav.file(1, 8000, 24, 1, 2, 3));
        fault(34, Wav.file(1, 8000, 32, 1, 2, 3, 4));
        fault(34, Wav.file(1, 8000, 0));
        fault(34, Wav.file(2, 8000, 4, 1));
        fault(32, Wav.number(Wav.file(1, 8000, 8), 34, 2, 16));
        fault(32, Wav.number(Wav.file(1, 8000, 8), 34, 2, 24));
        // 12 bits are one octet and a half, and no number is that
        fault(32, Wav.number(Wav.file(1, 8000, 8), 34, 2, 12));
        // 28-31 come first, and lean on 32-33 as these are
        fault(28, Wav.number(Wav.file(1, 8000, 8), 32, 2, 2));
        fault(32, width(2));
        fault(32, width(0));
        fault(32, width(257));
    }

    private static int[] width(int width) {
        int[] file = Wav.number(Wav.file(1, 8000, 8), 32, 2, width);
        return Wav.number(file, 28, 4, 8000L * width);
    }

    private static void firstFaultOfTwo() {
        int[] starts = {0, 4, 8, 12, 16, 20, 22, 24, 28, 36, 40};
        for (int i = 0; i < starts.length; i++) {
            for (int j = i; j < starts.length; j++) {
                int[] file = file();
                file[starts[i]] ^= 64;
                file[starts[i] + 1] ^= 255;
                file[starts[j]] ^= i == j ? 0 : 64;
                file[starts[j] + 1] ^= i == j ? 0 : 255;
                fault(starts[i], file);
            }
        }
    }

    private static void shortFiles() {
        int[] whole = Wav.file(1, 8000, 8);
        for (int n : new int[] {0, 1, 4, 12, 43}) {
            fault(n, java.util.Arrays.copyOf(whole, n));
            fault(n, new int[n]);
        }
        fault(-1, whole);
        fault(0, new int[44]);
    }

    private static void tooManySamples() {
        HearingDesk desk = new HearingDesk();
        desk.wave(32, 1, 1.0);
        desk.hear();
        Wav.pour(desk, 1).hear();
        due.thrown("read() of one octet", Due.ARGUMENT, desk::read);
        Wav.pour(desk, Wav.file(1, 9999, 8, new int[321]));
        due.thrown("read() of 321", Due.INDEX, desk::read);
        due.same("place() after 321", desk.place(), -1);
        due.same("count(0) after 321", desk.count(0), 0);
        due.same("count(1) after 321", desk.count(1), 32);
        due.same("count(3) after 321", desk.count(3), 8000);
        due.same("count(5) after 321", desk.count(5), 1);
        Wav.pour(desk, Wav.file(1, 9999, 8, new int[356]));
        due.thrown("read() of 356", Due.INDEX, desk::read);
        Wav.pour(desk, Wav.file(1, 9999, 8, new int[320]));
        due.same("read() of 320", desk.read(), 320);
        due.same("count(2) after 320", desk.count(2), 19);
    }

    private static void whatReadingChanges() {
        HearingDesk desk = new HearingDesk();
        due.same("place() of a new one", desk.place(), -1);
        desk.wave(64, 3, 1.0);
        desk.learn(97, 0, 1);
        desk.hear();
        due.thrown("read() of nothing", Due.ARGUMENT, desk::read);
        due.same("place() of nothing", desk.place(), 0);
        due.same("WORDS after a fault", desk.count(5), 1);
        due.same("SAMPLES after a fault", desk.count(1), 64);
        Wav.pour(desk, Wav.file(1, 8000, 8, 1, 2));
        due.same("place() before the next read()", desk.place(), 0);
        due.same("read()", desk.read(), 2);
        due.same("place()", desk.place(), -1);
        due.same("SAMPLES after it", desk.count(1), 2);
        due.same("WORDS after it", desk.count(5), 0);
        due.same("PATTERNS after it", desk.count(4), 1);
        due.thrown("read() again", Due.ARGUMENT, desk::read);
        due.same("RATE and SAMPLES stay", desk.count(3) + desk.count(1), 8002);
    }

    private static void rates() {
        HearingDesk desk = Wav.pour(new HearingDesk(), Wav.file(2, 48000, 16, new int[4]));
        due.same("read() at 48000 with 4 octets a frame", desk.read(), 1);
        due.same("RATE", desk.count(3), 48000);
        desk.clear();
        due.same("RATE after clear()", desk.count(3), 48000);
    }
}
